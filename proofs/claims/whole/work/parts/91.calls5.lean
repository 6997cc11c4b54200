-- NAME calls5
/-! calls: what is read off the board; take, put -/
theorem k_foV {S : m_S} {I : m_I} {lg : Int64} {d t a pn : Nat} (hd : 4 ≤ d) (h : Vw I) (hP : Pn I pn) (ht : t < 30) (ha : a < vn I t) : m_R S M_X0_faultsOf d [.ref 72, .int (nI (vw I t a))] (hh I lg) (some (.int (nI (faV I t pn a)))) (hh (rdV I t pn) lg) := k_faultsOf hd (Vw_DyC h ht) hP (Vw_Md h) ha (h.2.2.1 t a ht ha).2 (fun j hj e => h.2.2.2.1 t j a ht hj ha e)
theorem k_toV {S : m_S} {I : m_I} {lg : Int64} {d t a pn : Nat} (hd : 4 ≤ d) (h : Vw I) (hP : Pn I pn) (ht : t < 30) (ha : a < vn I t) (e : Bool) : m_R S M_X0_timeOf d [.ref 72, .int (nI (vw I t a)), .int (bi e)] (hh I lg) (some (.int (if e then enC I t (vw I t) (vq I t) a else bgC I t (vw I t) (vq I t) a))) (hh (rdV I t pn) lg) := k_timeOf hd (Vw_DyC h ht) hP ha (h.2.2.1 t a ht ha).2 (fun j hj e => h.2.2.2.1 t j a ht hj ha e) e
theorem Iv_rd {c c2 : Nat} {I : m_I} {t pn : Nat} (h : Iv c I) (hc : c ≤ c2) : Iv c2 (rdV I t pn) := Iv_same h hc (fun a b z => rdV_ne (by unfold usd at z; omega) (by unfold usd at z; omega))
theorem fR_rd {I : m_I} {t pn : Nat} : ∀ a b, 143 ≤ a → rdV I t pn a b = I a b := fun a b h => rdV_ne (by omega) (by omega)
/-- the reference's clock told, its place on a day -/
theorem kr_clkV {S : m_S} {I J : m_I} {t : Nat} (h : Cr I J) (hV : Vw I) (ht : t < 30) : ∃ J2, (∀ lg d, 2 ≤ d → m_R S M_X11_clock d [.ref 143, .int (nI t)] (hh J lg) none (hh J2 lg)) ∧ smR J J2 ∧ Cr I J2 ∧ Tk I J2 t := by
  have hm := hV.1
  refine ⟨rrM J (bgR J t (vw I t) (vq I t)) (enR J t (vw I t) (vq I t)) (vn I t), fun lg d hd => kr_clockV hd h hV ht (smR_id J), smR_rr (smR_id J) _ _ _, Cr_smR hm h (smR_rr (smR_id J) _ _ _), Tk_rr h hV ht J⟩
theorem kr_poV {S : m_S} {I J : m_I} {lg : Int64} {d t a : Nat} (h : Cr I J) (hV : Vw I) (ht : t < 30) (ha : a < vn I t) : m_R S M_X11_placeOn d [.ref 143, .int (nI (vw I t a)), .int (nI t)] (hh J lg) (some (.int (nI a))) (hh J lg) := kr_placeOn (h.dr hV ht) ha (fun j hj e => by have := hV.2.2.2.1 t j a ht (by omega) ha e; omega)
theorem o_strip {S : m_S} {c : Nat} {I : m_I} (x y : Int32) (hI : Iv c I) (hC : Cr I I) : Okc S c I M_X10_strip M_X11_strip [.ref 0, .int x, .int y] [.ref 143, .int x, .int y] [xI] := by
  have hV := hI.1
  have hm := hV.1
  rcases ix_or x (n := 30) (by omega) with ⟨t, ht, rfl⟩ | hx
  · have hn8 := hV.2.1 t ht
    by_cases hy : y < 0
    · refine Okc_thr (k := 0) (E := xI) (b := some (.int (nI 0))) hI hC rfl (fun lg d hd => k_stripT2 (by omega) ht hy) (fun lg d hd => ?_)
      have d1 := kr_dy1 (S := S) (h := hh I lg) (d := d - 1) (by omega) ht
      refine ms_aload_n dX11_strip_0 rfl ?_
      refine ms_iload_n dX11_strip_1 rfl ?_
      refine qRS1 dX11_strip_2 kX11_168 (d := d - 1) (by show d - 1 + 1 ≤ d; omega) rfl (Nat.le_of_ble_eq_true rfl) (Nat.le_of_ble_eq_true rfl) (d1) rfl ?_
      refine ms_if_eq (tgt := 16) dX11_strip_5 (by decide) (fun c5 => absurd c5 (by decide)) (fun c5 => ?_)
      refine ms_iload_n dX11_strip_8 rfl ?_
      refine ms_if_lt (tgt := 16) dX11_strip_9 (by decide) (fun c9 => ?_) (fun c9 => absurd c9 (fun q => q hy))
      refine ms_iconst (v := nI 1) dX11_strip_16 (by decide) ?_
      refine qRV1 dX11_strip_17 kX11_138 (by show _ < 178; first | decide | exact lt_sc (by omega) | exact lt_dy (by omega)) (by show (sh0 _).1 = _; first | rfl | rw [sh_sc (by omega)] | rw [sh_dy (by omega)]) (d := d - 1) (by show d - 1 + 1 ≤ d; omega) rfl (Nat.le_of_ble_eq_true rfl) (Nat.le_of_ble_eq_true rfl) (kr_gwk 0 (by decide)) rfl ?_
      refine ms_if_ne (tgt := 25) dX11_strip_20 (by decide) (fun c20 => absurd c20 (by decide)) (fun c20 => ?_)
      refine ms_iconst (v := nI 0) dX11_strip_23 (by decide) ?_
      refine ms_iret dX11_strip_24 rfl rfl ⟨?_, ?_⟩
      · rfl
      · rfl
    · obtain ⟨k, hk, rfl⟩ := nI_of hy
      refine Okc_go _ hm hC (fun lg d hd => k_strip (by omega) ht (nI_vN _).symm hn8 (by omega)) (fun _ _ _ => rfl) (Iv_same hI (by omega) (fun _ _ _ => rfl)) (fun J J' hJ hC' hgw hne hz => ?_)
      refine ⟨J', fun lg d hd => ?_, hC', fun _ _ _ => rfl, rfl⟩
      have d1 := kr_dy1 (S := S) (h := hh J lg) (d := d - 1) (by omega) ht
      have hmn : J' 172 t = nI (vn I t) := (hC'.dr hV ht).2.1
      show m_R S M_X11_strip d _ _ (some (.int (if k < vn I t then I (rwI t) k else -1))) _
      refine ms_aload_n dX11_strip_0 rfl ?_
      refine ms_iload_n dX11_strip_1 rfl ?_
      refine qRS1 dX11_strip_2 kX11_168 (d := d - 1) (by show d - 1 + 1 ≤ d; omega) rfl (Nat.le_of_ble_eq_true rfl) (Nat.le_of_ble_eq_true rfl) (d1) rfl ?_
      refine ms_if_eq (tgt := 16) dX11_strip_5 (by decide) (fun c5 => absurd c5 (by decide)) (fun c5 => ?_)
      refine ms_iload_n dX11_strip_8 rfl ?_
      refine ms_if_lt (tgt := 16) dX11_strip_9 (by decide) (fun c9 => absurd c9 (fun q => hy q)) (fun c9 => ?_)
      refine ms_iconst (v := nI 0) dX11_strip_12 (by decide) ?_
      refine ms_goto (tgt := 17) dX11_strip_13 (by decide) ?_
      refine qRV1 dX11_strip_17 kX11_138 (by show _ < 178; first | decide | exact lt_sc (by omega) | exact lt_dy (by omega)) (by show (sh0 _).1 = _; first | rfl | rw [sh_sc (by omega)] | rw [sh_dy (by omega)]) (d := d - 1) (by show d - 1 + 1 ≤ d; omega) rfl (Nat.le_of_ble_eq_true rfl) (Nat.le_of_ble_eq_true rfl) (hgw _ _) rfl ?_
      refine ms_if_ne (tgt := 25) dX11_strip_20 (by decide) (fun c20 => ?_) (fun c20 => absurd c20 (by decide))
      refine ms_iload_n dX11_strip_25 rfl ?_
      refine ms_aload_n dX11_strip_26 rfl ?_
      refine q_getr dX11_strip_27 fX11_95 kd_11_36 (by first | decide | exact lt_sc (by omega) | exact lt_dy (by omega) | exact lt_rw (by omega) | exact lt_wa (by omega) | exact lt_le (by omega)) (by first | rfl | rw [sh_sc (by omega)] | rw [sh_dy (by omega)]) (by first | rfl | exact rf_wa (by omega) | exact rf_le (by omega) | exact rf_rw (by omega)) ?_
      refine ms_iload_n dX11_strip_30 rfl ?_
      refine q_iald dX11_strip_31 (by first | decide | exact lt_sc (by omega) | exact lt_dy (by omega) | exact lt_rw (by omega) | exact lt_wa (by omega) | exact lt_le (by omega)) (by first | rfl | exact sh_rw (by omega) | exact sh_wa (by omega) | exact sh_le (by omega)) (by omega) (by decide) hmn ?_
      refine n_icmp_ge (tgt := 49) dX11_strip_32 (by decide) (by omega) (by omega) (fun c32 => ?_) (fun c32 => ?_)
      · rw [if_neg (show ¬ k < vn I t by omega)]
        refine ms_iconst (v := -1) dX11_strip_49 (by decide) ?_
        refine ms_iret dX11_strip_50 rfl rfl ⟨?_, ?_⟩
        · rfl
        · rfl
      · rw [if_pos (show k < vn I t by omega)]
        have hr := hC'.ro ht (j := k) (by omega)
        refine ms_aload_n dX11_strip_35 rfl ?_
        refine q_getr dX11_strip_36 fX11_92 kd_11_35 (by first | decide | exact lt_sc (by omega) | exact lt_dy (by omega) | exact lt_rw (by omega) | exact lt_wa (by omega) | exact lt_le (by omega)) (by first | rfl | rw [sh_sc (by omega)] | rw [sh_dy (by omega)]) (by first | rfl | exact rf_wa (by omega) | exact rf_le (by omega) | exact rf_rw (by omega)) ?_
        refine ms_bipush (v := nI 8) dX11_strip_39 (by decide) ?_
        refine ms_iload_n dX11_strip_41 rfl ?_
        refine n_imul dX11_strip_42 ?_
        refine ms_iload_n dX11_strip_43 rfl ?_
        refine n_iadd dX11_strip_44 ?_
        refine q_iald dX11_strip_45 (by first | decide | exact lt_sc (by omega) | exact lt_dy (by omega) | exact lt_rw (by omega) | exact lt_wa (by omega) | exact lt_le (by omega)) (by first | rfl | exact sh_rw (by omega) | exact sh_wa (by omega) | exact sh_le (by omega)) (by omega) (by decide) hr ?_
        refine ms_goto (tgt := 50) dX11_strip_46 (by decide) ?_
        refine ms_iret dX11_strip_50 rfl rfl ⟨?_, ?_⟩
        · rfl
        · rfl
  · refine Okc_thr (k := 0) (E := xI) (b := some (.int (nI 0))) hI hC rfl (fun lg d hd => k_stripT1 (by omega) hx) (fun lg d hd => ?_)
    have d1 := kr_dy0 (S := S) (h := hh I lg) (d := d - 1) (by omega) hx
    refine ms_aload_n dX11_strip_0 rfl ?_
    refine ms_iload_n dX11_strip_1 rfl ?_
    refine qRS1 dX11_strip_2 kX11_168 (d := d - 1) (by show d - 1 + 1 ≤ d; omega) rfl (Nat.le_of_ble_eq_true rfl) (Nat.le_of_ble_eq_true rfl) (d1) rfl ?_
    refine ms_if_eq (tgt := 16) dX11_strip_5 (by decide) (fun c5 => ?_) (fun c5 => absurd c5 (by decide))
    refine ms_iconst (v := nI 1) dX11_strip_16 (by decide) ?_
    refine qRV1 dX11_strip_17 kX11_138 (by show _ < 178; first | decide | exact lt_sc (by omega) | exact lt_dy (by omega)) (by show (sh0 _).1 = _; first | rfl | rw [sh_sc (by omega)] | rw [sh_dy (by omega)]) (d := d - 1) (by show d - 1 + 1 ≤ d; omega) rfl (Nat.le_of_ble_eq_true rfl) (Nat.le_of_ble_eq_true rfl) (kr_gwk 0 (by decide)) rfl ?_
    refine ms_if_ne (tgt := 25) dX11_strip_20 (by decide) (fun c20 => absurd c20 (by decide)) (fun c20 => ?_)
    refine ms_iconst (v := nI 0) dX11_strip_23 (by decide) ?_
    refine ms_iret dX11_strip_24 rfl rfl ⟨?_, ?_⟩
    · rfl
    · rfl
theorem stR_eq {I J : m_I} (h : Cr I J) {s : Nat} (hs : s < vm I) (hm : vm I ≤ 20) : stR J s = stC I s := by
  unfold stR stC
  rw [h.om (by omega), h.sh (by omega), h.ow (by omega), h.dy hs]
theorem o_ofScene {S : m_S} {c : Nat} {I : m_I} (x y : Int32) (hc : c < 512) (hI : Iv c I) (hC : Cr I I) : Okc S c I M_X10_ofScene M_X11_ofScene [.ref 0, .int x, .int y] [.ref 143, .int x, .int y] [xI, xA] := by
  have hV := hI.1
  have hm := hV.1
  have hM := Iv_Md hI
  have hP := Iv_Pn hI
  have hS := Iv_St hI (by omega)
  rcases ix_or x (n := vm I) (by omega) with ⟨s, hs, rfl⟩ | hx
  · have hs20 : s < 20 := by omega
    by_cases hy : nI 0 ≤ y ∧ y ≤ nI 4
    · obtain ⟨k, hk, rfl⟩ := nI_of (Int32.not_lt.mpr hy.1)
      have hk4 : k ≤ 4 := (nI_leI hk (by omega)).mp hy.2
      by_cases hk0 : k = 0
      · subst hk0
        refine Okc_go _ hm hC (fun lg d hd => k_ofScene0 (by omega) hM hs) (fun _ _ _ => rfl) (Iv_same hI (by omega) (fun _ _ _ => rfl)) (fun J J' hJ hC' hgw hne hz => ?_)
        refine ⟨J', fun lg d hd => ?_, hC', fun _ _ _ => rfl, rfl⟩
        have hsc := kr_sc1 (S := S) (J := J) (lg := lg) (d := d - 1) (by omega) (hJ.m.trans hM.1) hm hs
        have hst := kr_stateOf (S := S) (I := J') (lg := lg) (d := d - 1) hs20
        rw [stR_eq hC' hs hm] at hst
        refine ms_aload_n dX11_ofScene_0 rfl ?_
        refine ms_iload_n dX11_ofScene_1 rfl ?_
        refine qRV1 dX11_ofScene_2 kX11_131 (by show _ < 178; first | decide | exact lt_sc (by omega) | exact lt_dy (by omega)) (by show (sh0 _).1 = _; first | rfl | rw [sh_sc (by omega)] | rw [sh_dy (by omega)]) (d := d - 1) (by show d - 1 + 1 ≤ d; omega) rfl (Nat.le_of_ble_eq_true rfl) (Nat.le_of_ble_eq_true rfl) (hsc) rfl ?_
        refine ms_istore_n dX11_ofScene_5 (Nat.le_of_ble_eq_true rfl) ?_
        refine ms_aload_n dX11_ofScene_6 rfl ?_
        refine ms_iload_n dX11_ofScene_7 rfl ?_
        refine ms_if_ne (tgt := 15) dX11_ofScene_8 (by decide) (fun c8 => ?_) (fun c8 => absurd c8 (by decide))
        refine ms_iload_n dX11_ofScene_15 rfl ?_
        refine ms_iconst (v := nI 0) dX11_ofScene_16 (by decide) ?_
        refine ms_iconst (v := nI 4) dX11_ofScene_17 (by decide) ?_
        refine qRS3 dX11_ofScene_18 kX11_117 (d := d - 1) (by show d - 1 + 1 ≤ d; omega) rfl rfl rfl (Nat.le_of_ble_eq_true rfl) (Nat.le_of_ble_eq_true rfl) (kr_in1 hy) rfl ?_
        refine ms_if_eq (tgt := 28) dX11_ofScene_21 (by decide) (fun c21 => absurd c21 (by decide)) (fun c21 => ?_)
        refine ms_iconst (v := nI 0) dX11_ofScene_24 (by decide) ?_
        refine ms_goto (tgt := 29) dX11_ofScene_25 (by decide) ?_
        refine qRV1 dX11_ofScene_29 kX11_138 (by show _ < 178; first | decide | exact lt_sc (by omega) | exact lt_dy (by omega)) (by show (sh0 _).1 = _; first | rfl | rw [sh_sc (by omega)] | rw [sh_dy (by omega)]) (d := d - 1) (by show d - 1 + 1 ≤ d; omega) rfl (Nat.le_of_ble_eq_true rfl) (Nat.le_of_ble_eq_true rfl) (hgw _ _) rfl ?_
        refine ms_if_ne (tgt := 37) dX11_ofScene_32 (by decide) (fun c32 => ?_) (fun c32 => absurd c32 (by decide))
        refine ms_aload_n dX11_ofScene_37 rfl ?_
        refine q_getr dX11_ofScene_38 fX11_56 kd_11_19 (by first | decide | exact lt_sc (by omega) | exact lt_dy (by omega) | exact lt_rw (by omega) | exact lt_wa (by omega) | exact lt_le (by omega)) (by first | rfl | rw [sh_sc (by omega)] | rw [sh_dy (by omega)]) (by first | rfl | exact rf_wa (by omega) | exact rf_le (by omega) | exact rf_rw (by omega)) ?_
        refine ms_iload_n dX11_ofScene_41 rfl ?_
        refine q_iald dX11_ofScene_42 (by first | decide | exact lt_sc (by omega) | exact lt_dy (by omega) | exact lt_rw (by omega) | exact lt_wa (by omega) | exact lt_le (by omega)) (by first | rfl | exact sh_rw (by omega) | exact sh_wa (by omega) | exact sh_le (by omega)) (by omega) (by decide) rfl ?_
        refine ms_istore dX11_ofScene_43 (Nat.le_of_ble_eq_true rfl) ?_
        refine ms_iload_n dX11_ofScene_45 rfl ?_
        refine ms_if_ne (tgt := 55) dX11_ofScene_46 (by decide) (fun c46 => absurd c46 (by decide)) (fun c46 => ?_)
        refine ms_aload_n dX11_ofScene_49 rfl ?_
        refine ms_iload_n dX11_ofScene_50 rfl ?_
        refine qRV1 dX11_ofScene_51 kX11_214 (by show _ < 178; first | decide | exact lt_sc (by omega) | exact lt_dy (by omega)) (by show (sh0 _).1 = _; first | rfl | rw [sh_sc (by omega)] | rw [sh_dy (by omega)]) (d := d - 1) (by show d - 1 + 1 ≤ d; omega) rfl (Nat.le_of_ble_eq_true rfl) (Nat.le_of_ble_eq_true rfl) (hst) rfl ?_
        refine ms_iret dX11_ofScene_54 rfl rfl ⟨?_, ?_⟩
        · rfl
        · rfl
      · have hkn : ¬ nI k = 0 := fun z => hk0 ((nI_eq (b := 0) hk (by omega)).mp z)
        rcases hV.2.2.2.2.1 s hs with hdy | ⟨t, a, ht, ha, he⟩
        · refine Okc_go _ hm hC (fun lg d hd => k_ofSceneN (by omega) hM hs ((nI_leI (by omega) hk).mpr (by omega)) hy.2 hdy) (fun _ _ _ => rfl) (Iv_same hI (by omega) (fun _ _ _ => rfl)) (fun J J' hJ hC' hgw hne hz => ?_)
          refine ⟨J', fun lg d hd => ?_, hC', fun _ _ _ => rfl, rfl⟩
          have hsc := kr_sc1 (S := S) (J := J) (lg := lg) (d := d - 1) (by omega) (hJ.m.trans hM.1) hm hs
          have hd9 : J' 159 s = -1 := (hC'.dy hs).trans hdy
          refine ms_aload_n dX11_ofScene_0 rfl ?_
          refine ms_iload_n dX11_ofScene_1 rfl ?_
          refine qRV1 dX11_ofScene_2 kX11_131 (by show _ < 178; first | decide | exact lt_sc (by omega) | exact lt_dy (by omega)) (by show (sh0 _).1 = _; first | rfl | rw [sh_sc (by omega)] | rw [sh_dy (by omega)]) (d := d - 1) (by show d - 1 + 1 ≤ d; omega) rfl (Nat.le_of_ble_eq_true rfl) (Nat.le_of_ble_eq_true rfl) (hsc) rfl ?_
          refine ms_istore_n dX11_ofScene_5 (Nat.le_of_ble_eq_true rfl) ?_
          refine ms_aload_n dX11_ofScene_6 rfl ?_
          refine ms_iload_n dX11_ofScene_7 rfl ?_
          refine ms_if_ne (tgt := 15) dX11_ofScene_8 (by decide) (fun c8 => ?_) (fun c8 => absurd c8 (by decide))
          refine ms_iload_n dX11_ofScene_15 rfl ?_
          refine ms_iconst (v := nI 0) dX11_ofScene_16 (by decide) ?_
          refine ms_iconst (v := nI 4) dX11_ofScene_17 (by decide) ?_
          refine qRS3 dX11_ofScene_18 kX11_117 (d := d - 1) (by show d - 1 + 1 ≤ d; omega) rfl rfl rfl (Nat.le_of_ble_eq_true rfl) (Nat.le_of_ble_eq_true rfl) (kr_in1 hy) rfl ?_
          refine ms_if_eq (tgt := 28) dX11_ofScene_21 (by decide) (fun c21 => absurd c21 (by decide)) (fun c21 => ?_)
          refine ms_iconst (v := nI 0) dX11_ofScene_24 (by decide) ?_
          refine ms_goto (tgt := 29) dX11_ofScene_25 (by decide) ?_
          refine qRV1 dX11_ofScene_29 kX11_138 (by show _ < 178; first | decide | exact lt_sc (by omega) | exact lt_dy (by omega)) (by show (sh0 _).1 = _; first | rfl | rw [sh_sc (by omega)] | rw [sh_dy (by omega)]) (d := d - 1) (by show d - 1 + 1 ≤ d; omega) rfl (Nat.le_of_ble_eq_true rfl) (Nat.le_of_ble_eq_true rfl) (hgw _ _) rfl ?_
          refine ms_if_ne (tgt := 37) dX11_ofScene_32 (by decide) (fun c32 => ?_) (fun c32 => absurd c32 (by decide))
          refine ms_aload_n dX11_ofScene_37 rfl ?_
          refine q_getr dX11_ofScene_38 fX11_56 kd_11_19 (by first | decide | exact lt_sc (by omega) | exact lt_dy (by omega) | exact lt_rw (by omega) | exact lt_wa (by omega) | exact lt_le (by omega)) (by first | rfl | rw [sh_sc (by omega)] | rw [sh_dy (by omega)]) (by first | rfl | exact rf_wa (by omega) | exact rf_le (by omega) | exact rf_rw (by omega)) ?_
          refine ms_iload_n dX11_ofScene_41 rfl ?_
          refine q_iald dX11_ofScene_42 (by first | decide | exact lt_sc (by omega) | exact lt_dy (by omega) | exact lt_rw (by omega) | exact lt_wa (by omega) | exact lt_le (by omega)) (by first | rfl | exact sh_rw (by omega) | exact sh_wa (by omega) | exact sh_le (by omega)) (by omega) (by decide) hd9 ?_
          refine ms_istore dX11_ofScene_43 (Nat.le_of_ble_eq_true rfl) ?_
          refine ms_iload_n dX11_ofScene_45 rfl ?_
          refine ms_if_ne (tgt := 55) dX11_ofScene_46 (by decide) (fun c46 => ?_) (fun c46 => absurd c46 (fun z => hkn z))
          refine ms_iload dX11_ofScene_55 rfl ?_
          refine ms_iconst (v := -1) dX11_ofScene_57 (by decide) ?_
          refine ms_icmp_ne (tgt := 63) dX11_ofScene_58 (by decide) (fun c58 => absurd c58 (fun q => q rfl)) (fun c58 => ?_)
          refine ms_iconst (v := -1) dX11_ofScene_61 (by decide) ?_
          refine ms_iret dX11_ofScene_62 rfl rfl ⟨?_, ?_⟩
          · rfl
          · rfl
        · subst he
          have hdy := (hV.2.2.1 t a ht ha).2
          have hdn : I (scI (vw I t a)) 15 ≠ -1 := fun z => by
            have h0 := nI_pos (n := t) (by omega)
            rw [← hdy, z] at h0
            exact absurd (by decide) h0
          have hnt : ¬ nI t = -1 := fun z => hdn (hdy.trans z)
          -- the reference, up to its clock
          have pre : ∀ J J', Cr I J → Cr I J' → (∀ lg d, m_R S M_X11_goesWell d [.ref 143, .int (nI 0)] (hh J lg) (some (.int (bi true))) (hh J' lg)) → ∃ J2, smR J' J2 ∧ Cr I J2 ∧ Tk I J2 t ∧ ∀ (lg : Int64) (d : Nat) (r : Int32), 9 ≤ d → m_W S (M_X11_ofScene, d, fun w9 g => w9 = some (.int r) ∧ g = hh J2 lg, fun _ _ => False) 69 [some (.ref 143), some (.int (nI (vw I t a))), some (.int (nI k)), some (.int (bi true)), some (.int (nI t))] [] (hh J2 lg) 0 0 → m_R S M_X11_ofScene d [.ref 143, .int (nI (vw I t a)), .int (nI k)] (hh J lg) (some (.int r)) (hh J2 lg) := by
            intro J J' hJ hC' hgw
            obtain ⟨J2, k1, k2, k3, k4⟩ := kr_clkV (S := S) hC' hV ht
            refine ⟨J2, k2, k3, k4, fun lg d r hd hg => ?_⟩
            have hsc := kr_sc1 (S := S) (J := J) (lg := lg) (d := d - 1) (by omega) (hJ.m.trans hM.1) hm hs
            have hd9 : J' 159 (vw I t a) = nI t := (hC'.dy hs).trans hdy
            refine ms_aload_n dX11_ofScene_0 rfl ?_
            refine ms_iload_n dX11_ofScene_1 rfl ?_
            refine qRV1 dX11_ofScene_2 kX11_131 (by show _ < 178; first | decide | exact lt_sc (by omega) | exact lt_dy (by omega)) (by show (sh0 _).1 = _; first | rfl | rw [sh_sc (by omega)] | rw [sh_dy (by omega)]) (d := d - 1) (by show d - 1 + 1 ≤ d; omega) rfl (Nat.le_of_ble_eq_true rfl) (Nat.le_of_ble_eq_true rfl) (hsc) rfl ?_
            refine ms_istore_n dX11_ofScene_5 (Nat.le_of_ble_eq_true rfl) ?_
            refine ms_aload_n dX11_ofScene_6 rfl ?_
            refine ms_iload_n dX11_ofScene_7 rfl ?_
            refine ms_if_ne (tgt := 15) dX11_ofScene_8 (by decide) (fun c8 => ?_) (fun c8 => absurd c8 (by decide))
            refine ms_iload_n dX11_ofScene_15 rfl ?_
            refine ms_iconst (v := nI 0) dX11_ofScene_16 (by decide) ?_
            refine ms_iconst (v := nI 4) dX11_ofScene_17 (by decide) ?_
            refine qRS3 dX11_ofScene_18 kX11_117 (d := d - 1) (by show d - 1 + 1 ≤ d; omega) rfl rfl rfl (Nat.le_of_ble_eq_true rfl) (Nat.le_of_ble_eq_true rfl) (kr_in1 hy) rfl ?_
            refine ms_if_eq (tgt := 28) dX11_ofScene_21 (by decide) (fun c21 => absurd c21 (by decide)) (fun c21 => ?_)
            refine ms_iconst (v := nI 0) dX11_ofScene_24 (by decide) ?_
            refine ms_goto (tgt := 29) dX11_ofScene_25 (by decide) ?_
            refine qRV1 dX11_ofScene_29 kX11_138 (by show _ < 178; first | decide | exact lt_sc (by omega) | exact lt_dy (by omega)) (by show (sh0 _).1 = _; first | rfl | rw [sh_sc (by omega)] | rw [sh_dy (by omega)]) (d := d - 1) (by show d - 1 + 1 ≤ d; omega) rfl (Nat.le_of_ble_eq_true rfl) (Nat.le_of_ble_eq_true rfl) (hgw _ _) rfl ?_
            refine ms_if_ne (tgt := 37) dX11_ofScene_32 (by decide) (fun c32 => ?_) (fun c32 => absurd c32 (by decide))
            refine ms_aload_n dX11_ofScene_37 rfl ?_
            refine q_getr dX11_ofScene_38 fX11_56 kd_11_19 (by first | decide | exact lt_sc (by omega) | exact lt_dy (by omega) | exact lt_rw (by omega) | exact lt_wa (by omega) | exact lt_le (by omega)) (by first | rfl | rw [sh_sc (by omega)] | rw [sh_dy (by omega)]) (by first | rfl | exact rf_wa (by omega) | exact rf_le (by omega) | exact rf_rw (by omega)) ?_
            refine ms_iload_n dX11_ofScene_41 rfl ?_
            refine q_iald dX11_ofScene_42 (by first | decide | exact lt_sc (by omega) | exact lt_dy (by omega) | exact lt_rw (by omega) | exact lt_wa (by omega) | exact lt_le (by omega)) (by first | rfl | exact sh_rw (by omega) | exact sh_wa (by omega) | exact sh_le (by omega)) (by omega) (by decide) hd9 ?_
            refine ms_istore dX11_ofScene_43 (Nat.le_of_ble_eq_true rfl) ?_
            refine ms_iload_n dX11_ofScene_45 rfl ?_
            refine ms_if_ne (tgt := 55) dX11_ofScene_46 (by decide) (fun c46 => ?_) (fun c46 => absurd c46 (fun z => hkn z))
            refine ms_iload dX11_ofScene_55 rfl ?_
            refine ms_iconst (v := -1) dX11_ofScene_57 (by decide) ?_
            refine ms_icmp_ne (tgt := 63) dX11_ofScene_58 (by decide) (fun c58 => ?_) (fun c58 => absurd c58 (fun q => hnt q))
            refine ms_aload_n dX11_ofScene_63 rfl ?_
            refine ms_iload dX11_ofScene_64 rfl ?_
            refine qRV1 dX11_ofScene_66 kX11_199 (by show _ < 178; first | decide | exact lt_sc (by omega) | exact lt_dy (by omega)) (by show (sh0 _).1 = _; first | rfl | rw [sh_sc (by omega)] | rw [sh_dy (by omega)]) (d := d - 1) (by show d - 1 + 1 ≤ d; omega) rfl (Nat.le_of_ble_eq_true rfl) (Nat.le_of_ble_eq_true rfl) (k1 _ _ (by omega)) rfl ?_
            exact hg
          have fin : ∀ (J' J2 : m_I), smR J' J2 → fQ J' J2 ∧ J2 143 0 = J' 143 0 := fun J' J2 h => ⟨fQ_sm h, h _ _ (by decide)⟩
          by_cases hk1 : k = 1
          · subst hk1
            refine Okc_go _ hm hC (fun lg d hd => k_ofScene1 (by omega) hM hs hdn) (fun _ _ _ => rfl) (Iv_same hI (by omega) (fun _ _ _ => rfl)) (fun J J' hJ hC' hgw hne hz => ?_)
            obtain ⟨J2, k2, k3, k4, k5⟩ := pre J J' hJ hC' hgw
            refine ⟨J2, fun lg d hd => k5 lg d _ hd ?_, k3, (fin J' J2 k2).1, (fin J' J2 k2).2⟩
            rw [hdy]
            refine ms_iload_n dX11_ofScene_69 rfl ?_
            refine ms_iconst (v := nI 1) dX11_ofScene_70 (by decide) ?_
            refine n_icmp_ne (tgt := 79) dX11_ofScene_71 (by decide) (by omega) (by omega) (fun c71 => absurd c71 (fun q => q rfl)) (fun c71 => ?_)
            refine ms_iload dX11_ofScene_74 rfl ?_
            refine ms_goto (tgt := 124) dX11_ofScene_76 (by decide) ?_
            refine ms_iret dX11_ofScene_124 rfl rfl ⟨?_, ?_⟩
            · rfl
            · rfl
          · by_cases hk2 : k = 2
            · subst hk2
              refine Okc_go _ hm hC (fun lg d hd => k_ofScene2 (by omega) hM hs hdn (fun d hd => k_toV hd hV hP ht ha false)) fR_rd (Iv_rd hI (by omega)) (fun J J' hJ hC' hgw hne hz => ?_)
              obtain ⟨J2, k2, k3, k4, k5⟩ := pre J J' hJ hC' hgw
              refine ⟨J2, fun lg d hd => k5 lg d _ hd ?_, Cr_smC hm k3 smC_rdV, (fin J' J2 k2).1, (fin J' J2 k2).2⟩
              have hpo := kr_poV (S := S) (lg := lg) (d := d - 1) k3 hV ht ha
              have hb := (k4 a ha).1
              have ha8 : a < 8 := by have := hV.2.1 t ht; omega
              refine ms_iload_n dX11_ofScene_69 rfl ?_
              refine ms_iconst (v := nI 1) dX11_ofScene_70 (by decide) ?_
              refine n_icmp_ne (tgt := 79) dX11_ofScene_71 (by decide) (by omega) (by omega) (fun c71 => ?_) (fun c71 => absurd c71 (by omega))
              refine ms_iload_n dX11_ofScene_79 rfl ?_
              refine ms_iconst (v := nI 2) dX11_ofScene_80 (by decide) ?_
              refine n_icmp_ne (tgt := 99) dX11_ofScene_81 (by decide) (by omega) (by omega) (fun c81 => absurd c81 (by omega)) (fun c81 => ?_)
              refine ms_aload_n dX11_ofScene_84 rfl ?_
              refine q_getr dX11_ofScene_85 fX11_101 kd_11_38 (by first | decide | exact lt_sc (by omega) | exact lt_dy (by omega) | exact lt_rw (by omega) | exact lt_wa (by omega) | exact lt_le (by omega)) (by first | rfl | rw [sh_sc (by omega)] | rw [sh_dy (by omega)]) (by first | rfl | exact rf_wa (by omega) | exact rf_le (by omega) | exact rf_rw (by omega)) ?_
              refine ms_aload_n dX11_ofScene_88 rfl ?_
              refine ms_iload_n dX11_ofScene_89 rfl ?_
              refine ms_iload dX11_ofScene_90 rfl ?_
              refine qRV2 dX11_ofScene_92 kX11_181 (by show _ < 178; first | decide | exact lt_sc (by omega) | exact lt_dy (by omega)) (by show (sh0 _).1 = _; first | rfl | rw [sh_sc (by omega)] | rw [sh_dy (by omega)]) (d := d - 1) (by show d - 1 + 1 ≤ d; omega) rfl rfl (Nat.le_of_ble_eq_true rfl) (Nat.le_of_ble_eq_true rfl) (hpo) rfl ?_
              refine q_iald dX11_ofScene_95 (by first | decide | exact lt_sc (by omega) | exact lt_dy (by omega) | exact lt_rw (by omega) | exact lt_wa (by omega) | exact lt_le (by omega)) (by first | rfl | exact sh_rw (by omega) | exact sh_wa (by omega) | exact sh_le (by omega)) (by omega) (by decide) hb ?_
              refine ms_goto (tgt := 124) dX11_ofScene_96 (by decide) ?_
              refine ms_iret dX11_ofScene_124 rfl rfl ⟨?_, ?_⟩
              · rfl
              · rfl
            · by_cases hk3 : k = 3
              · subst hk3
                refine Okc_go _ hm hC (fun lg d hd => k_ofScene3 (by omega) hM hs hdn (fun d hd => k_toV hd hV hP ht ha true)) fR_rd (Iv_rd hI (by omega)) (fun J J' hJ hC' hgw hne hz => ?_)
                obtain ⟨J2, k2, k3, k4, k5⟩ := pre J J' hJ hC' hgw
                refine ⟨J2, fun lg d hd => k5 lg d _ hd ?_, Cr_smC hm k3 smC_rdV, (fin J' J2 k2).1, (fin J' J2 k2).2⟩
                have hpo := kr_poV (S := S) (lg := lg) (d := d - 1) k3 hV ht ha
                have hb := (k4 a ha).2
                have ha8 : a < 8 := by have := hV.2.1 t ht; omega
                refine ms_iload_n dX11_ofScene_69 rfl ?_
                refine ms_iconst (v := nI 1) dX11_ofScene_70 (by decide) ?_
                refine n_icmp_ne (tgt := 79) dX11_ofScene_71 (by decide) (by omega) (by omega) (fun c71 => ?_) (fun c71 => absurd c71 (by omega))
                refine ms_iload_n dX11_ofScene_79 rfl ?_
                refine ms_iconst (v := nI 2) dX11_ofScene_80 (by decide) ?_
                refine n_icmp_ne (tgt := 99) dX11_ofScene_81 (by decide) (by omega) (by omega) (fun c81 => ?_) (fun c81 => absurd c81 (by omega))
                refine ms_iload_n dX11_ofScene_99 rfl ?_
                refine ms_iconst (v := nI 3) dX11_ofScene_100 (by decide) ?_
                refine n_icmp_ne (tgt := 119) dX11_ofScene_101 (by decide) (by omega) (by omega) (fun c101 => absurd c101 (by omega)) (fun c101 => ?_)
                refine ms_aload_n dX11_ofScene_104 rfl ?_
                refine q_getr dX11_ofScene_105 fX11_104 kd_11_39 (by first | decide | exact lt_sc (by omega) | exact lt_dy (by omega) | exact lt_rw (by omega) | exact lt_wa (by omega) | exact lt_le (by omega)) (by first | rfl | rw [sh_sc (by omega)] | rw [sh_dy (by omega)]) (by first | rfl | exact rf_wa (by omega) | exact rf_le (by omega) | exact rf_rw (by omega)) ?_
                refine ms_aload_n dX11_ofScene_108 rfl ?_
                refine ms_iload_n dX11_ofScene_109 rfl ?_
                refine ms_iload dX11_ofScene_110 rfl ?_
                refine qRV2 dX11_ofScene_112 kX11_181 (by show _ < 178; first | decide | exact lt_sc (by omega) | exact lt_dy (by omega)) (by show (sh0 _).1 = _; first | rfl | rw [sh_sc (by omega)] | rw [sh_dy (by omega)]) (d := d - 1) (by show d - 1 + 1 ≤ d; omega) rfl rfl (Nat.le_of_ble_eq_true rfl) (Nat.le_of_ble_eq_true rfl) (hpo) rfl ?_
                refine q_iald dX11_ofScene_115 (by first | decide | exact lt_sc (by omega) | exact lt_dy (by omega) | exact lt_rw (by omega) | exact lt_wa (by omega) | exact lt_le (by omega)) (by first | rfl | exact sh_rw (by omega) | exact sh_wa (by omega) | exact sh_le (by omega)) (by omega) (by decide) hb ?_
                refine ms_goto (tgt := 124) dX11_ofScene_116 (by decide) ?_
                refine ms_iret dX11_ofScene_124 rfl rfl ⟨?_, ?_⟩
                · rfl
                · rfl
              · obtain rfl : k = 4 := by omega
                refine Okc_go _ hm hC (fun lg d hd => k_ofScene4 (by omega) hM hs hdn (fun d hd => k_foV hd hV hP ht ha)) fR_rd (Iv_rd hI (by omega)) (fun J J' hJ hC' hgw hne hz => ?_)
                obtain ⟨J2, k2, k3, k4, k5⟩ := pre J J' hJ hC' hgw
                refine ⟨J2, fun lg d hd => k5 lg d _ hd ?_, Cr_smC hm k3 smC_rdV, (fin J' J2 k2).1, (fin J' J2 k2).2⟩
                have hfa := kr_faultsV (S := S) (lg := lg) (d := d - 1) (by omega) k3 hV hS ht ha k4
                refine ms_iload_n dX11_ofScene_69 rfl ?_
                refine ms_iconst (v := nI 1) dX11_ofScene_70 (by decide) ?_
                refine n_icmp_ne (tgt := 79) dX11_ofScene_71 (by decide) (by omega) (by omega) (fun c71 => ?_) (fun c71 => absurd c71 (by omega))
                refine ms_iload_n dX11_ofScene_79 rfl ?_
                refine ms_iconst (v := nI 2) dX11_ofScene_80 (by decide) ?_
                refine n_icmp_ne (tgt := 99) dX11_ofScene_81 (by decide) (by omega) (by omega) (fun c81 => ?_) (fun c81 => absurd c81 (by omega))
                refine ms_iload_n dX11_ofScene_99 rfl ?_
                refine ms_iconst (v := nI 3) dX11_ofScene_100 (by decide) ?_
                refine n_icmp_ne (tgt := 119) dX11_ofScene_101 (by decide) (by omega) (by omega) (fun c101 => ?_) (fun c101 => absurd c101 (by omega))
                refine ms_aload_n dX11_ofScene_119 rfl ?_
                refine ms_iload_n dX11_ofScene_120 rfl ?_
                refine qRV1 dX11_ofScene_121 kX11_202 (by show _ < 178; first | decide | exact lt_sc (by omega) | exact lt_dy (by omega)) (by show (sh0 _).1 = _; first | rfl | rw [sh_sc (by omega)] | rw [sh_dy (by omega)]) (d := d - 1) (by show d - 1 + 1 ≤ d; omega) rfl (Nat.le_of_ble_eq_true rfl) (Nat.le_of_ble_eq_true rfl) (hfa) rfl ?_
                refine ms_iret dX11_ofScene_124 rfl rfl ⟨?_, ?_⟩
                · rfl
                · rfl
    · refine Okc_thr (k := 1) (E := xA) (b := some (.int (nI 0))) hI hC rfl (fun lg d hd => k_ofSceneT2 (by omega) hM hs hy) (fun lg d hd => ?_)
      have hsc := kr_sc1 (S := S) (J := I) (lg := lg) (d := d - 1) (by omega) (hC.m.trans hM.1) hm hs
      refine ms_aload_n dX11_ofScene_0 rfl ?_
      refine ms_iload_n dX11_ofScene_1 rfl ?_
      refine qRV1 dX11_ofScene_2 kX11_131 (by show _ < 178; first | decide | exact lt_sc (by omega) | exact lt_dy (by omega)) (by show (sh0 _).1 = _; first | rfl | rw [sh_sc (by omega)] | rw [sh_dy (by omega)]) (d := d - 1) (by show d - 1 + 1 ≤ d; omega) rfl (Nat.le_of_ble_eq_true rfl) (Nat.le_of_ble_eq_true rfl) (hsc) rfl ?_
      refine ms_istore_n dX11_ofScene_5 (Nat.le_of_ble_eq_true rfl) ?_
      refine ms_aload_n dX11_ofScene_6 rfl ?_
      refine ms_iload_n dX11_ofScene_7 rfl ?_
      refine ms_if_ne (tgt := 15) dX11_ofScene_8 (by decide) (fun c8 => ?_) (fun c8 => absurd c8 (by decide))
      refine ms_iload_n dX11_ofScene_15 rfl ?_
      refine ms_iconst (v := nI 0) dX11_ofScene_16 (by decide) ?_
      refine ms_iconst (v := nI 4) dX11_ofScene_17 (by decide) ?_
      refine qRS3 dX11_ofScene_18 kX11_117 (d := d - 1) (by show d - 1 + 1 ≤ d; omega) rfl rfl rfl (Nat.le_of_ble_eq_true rfl) (Nat.le_of_ble_eq_true rfl) (kr_in0 hy) rfl ?_
      refine ms_if_eq (tgt := 28) dX11_ofScene_21 (by decide) (fun c21 => ?_) (fun c21 => absurd c21 (by decide))
      refine ms_iconst (v := nI 2) dX11_ofScene_28 (by decide) ?_
      refine qRV1 dX11_ofScene_29 kX11_138 (by show _ < 178; first | decide | exact lt_sc (by omega) | exact lt_dy (by omega)) (by show (sh0 _).1 = _; first | rfl | rw [sh_sc (by omega)] | rw [sh_dy (by omega)]) (d := d - 1) (by show d - 1 + 1 ≤ d; omega) rfl (Nat.le_of_ble_eq_true rfl) (Nat.le_of_ble_eq_true rfl) (kr_gwk 1 (by decide)) rfl ?_
      refine ms_if_ne (tgt := 37) dX11_ofScene_32 (by decide) (fun c32 => absurd c32 (by decide)) (fun c32 => ?_)
      refine ms_iconst (v := nI 0) dX11_ofScene_35 (by decide) ?_
      refine ms_iret dX11_ofScene_36 rfl rfl ⟨?_, ?_⟩
      · rfl
      · rfl
  · refine Okc_thr (k := 0) (E := xI) (b := some (.int (nI 0))) hI hC rfl (fun lg d hd => k_ofSceneT1 (by omega) hM hx) (fun lg d hd => ?_)
    have hsc := kr_sc0 (S := S) (J := I) (lg := lg) (d := d - 1) (by omega) (hC.m.trans hM.1) hm hx
    refine ms_aload_n dX11_ofScene_0 rfl ?_
    refine ms_iload_n dX11_ofScene_1 rfl ?_
    refine qRV1 dX11_ofScene_2 kX11_131 (by show _ < 178; first | decide | exact lt_sc (by omega) | exact lt_dy (by omega)) (by show (sh0 _).1 = _; first | rfl | rw [sh_sc (by omega)] | rw [sh_dy (by omega)]) (d := d - 1) (by show d - 1 + 1 ≤ d; omega) rfl (Nat.le_of_ble_eq_true rfl) (Nat.le_of_ble_eq_true rfl) (hsc) rfl ?_
    refine ms_istore_n dX11_ofScene_5 (Nat.le_of_ble_eq_true rfl) ?_
    refine ms_aload_n dX11_ofScene_6 rfl ?_
    refine ms_iload_n dX11_ofScene_7 rfl ?_
    refine ms_if_ne (tgt := 15) dX11_ofScene_8 (by decide) (fun c8 => absurd c8 (by decide)) (fun c8 => ?_)
    refine ms_iconst (v := nI 1) dX11_ofScene_11 (by decide) ?_
    refine ms_goto (tgt := 29) dX11_ofScene_12 (by decide) ?_
    refine qRV1 dX11_ofScene_29 kX11_138 (by show _ < 178; first | decide | exact lt_sc (by omega) | exact lt_dy (by omega)) (by show (sh0 _).1 = _; first | rfl | rw [sh_sc (by omega)] | rw [sh_dy (by omega)]) (d := d - 1) (by show d - 1 + 1 ≤ d; omega) rfl (Nat.le_of_ble_eq_true rfl) (Nat.le_of_ble_eq_true rfl) (kr_gwk 0 (by decide)) rfl ?_
    refine ms_if_ne (tgt := 37) dX11_ofScene_32 (by decide) (fun c32 => absurd c32 (by decide)) (fun c32 => ?_)
    refine ms_iconst (v := nI 0) dX11_ofScene_35 (by decide) ?_
    refine ms_iret dX11_ofScene_36 rfl rfl ⟨?_, ?_⟩
    · rfl
    · rfl
theorem wrG_n {pe en : Nat → Int32} {x : Int32} {p k : Nat} (h : bt (wkG pe k) p = false) : wrG pe en x p k = x := by
  induction k with
  | zero => rfl
  | succ k ih =>
    have h2 : bt (wkG pe k ||| pe k) p = false := h
    rw [b_or, Bool.or_eq_false_iff] at h2
    unfold wrG
    rw [if_neg (fun z => by rw [h2.2] at z; cases z)]
    exact ih h2.1
/-- the call and the wrap, told alike -/
theorem ca_eq {I J : m_I} {t p : Nat} (h : Cr I J) (hV : Vw I) (ht : t < 30) (hp : p < 8) (wr : Bool) : (if wr then toD J t (vn I t) (vw I t) (vq I t) p else frD J t (vn I t) (vw I t) (vq I t) p) = if bt (wkG (peC I (vw I t)) (vn I t)) p then (if wr then wrC I t (vn I t) (vw I t) (vq I t) p else clC I t (vn I t) (vw I t) (vq I t) p) else -10000 := by
  have e1 : toD J t (vn I t) (vw I t) (vq I t) p = wrG (peC I (vw I t)) (enC I t (vw I t) (vq I t)) (-10000) p (vn I t) := wrG_cong (fun j hj => ⟨h.pe (Vw_w20 hV ht hj), Cr_en h hV ht hj⟩)
  have e2 : frD J t (vn I t) (vw I t) (vq I t) p = clG (peC I (vw I t)) (bgC I t (vw I t) (vq I t)) (I 68 p) (-10000) p (vn I t) := by
    unfold frD
    rw [h.pr hp]
    exact clG_cong (fun j hj => ⟨h.pe (Vw_w20 hV ht hj), Cr_bg h hV ht hj⟩)
  rw [e1, e2]
  rcases Bool.eq_false_or_eq_true (bt (wkG (peC I (vw I t)) (vn I t)) p) with z | z
  · rw [z, wrG_w (y := I 79 p) z, clG_w (y := I 78 p) z]
    rfl
  · rw [z, wrG_n z, clG_n z]
    cases wr <;> rfl
theorem o_call {S : m_S} {c : Nat} {I : m_I} (x y : Int32) (q : Bool) (hc : c < 512) (hI : Iv c I) (hC : Cr I I) : Okc S c I M_X10_call M_X11_call [.ref 0, .int x, .int y, .int (bi q)] [.ref 143, .int x, .int y, .int (bi q)] [xI] := by
  have hV := hI.1
  have hm := hV.1
  have hP := Iv_Pn hI
  have hP2 := hP.2
  have hS := Iv_St hI (by omega)
  rcases ix_or x (n := vpn I) (by omega) with ⟨p, hp, rfl⟩ | hx
  · rcases ix_or y (n := 30) (by omega) with ⟨t, ht, rfl⟩ | hy
    · have hcl : ∀ lg d, 9 ≤ d → m_R S M_X10_call d [.ref 0, .int (nI p), .int (nI t), .int (bi q)] (hh I lg) (some (.int (if bt (wkG (peC I (vw I t)) (vn I t)) p then (if q then wrC I t (vn I t) (vw I t) (vq I t) p else clC I t (vn I t) (vw I t) (vq I t) p) else -10000))) (hh (rdV I t (vpn I)) lg) := fun lg d hd => by
        have e := k_call (S := S) (I := I) (J := rdV I t (vpn I)) (lg := lg) (d := d) q (by omega) hP hp ht (fun d hd => k_clockOf hd (Vw_DyC hV ht) hP)
        rw [show rdV I t (vpn I) 75 8 = wkG (peC I (vw I t)) (vn I t) from rdI_wk, show rdV I t (vpn I) 79 p = wrC I t (vn I t) (vw I t) (vq I t) p from rdI_wr hp, show rdV I t (vpn I) 78 p = clC I t (vn I t) (vw I t) (vq I t) p from rdI_cl hp] at e
        exact e
      refine Okc_go _ hm hC hcl fR_rd (Iv_rd hI (by omega)) (fun J J' hJ hC' hgw hne hz => ?_)
      rw [← ca_eq hC' hV ht (by omega) q]
      have hk := smR_rr (smR_id J') (bgR J' t (vw I t) (vq I t)) (enR J' t (vw I t) (vq I t)) (vn I t)
      refine ⟨_, fun lg d hd => ?_, Cr_smC hm (Cr_smR hm hC' hk) smC_rdV, fQ_sm hk, hk _ _ (by decide)⟩
      have p1 := kr_pe1 (S := S) (J := J) (lg := lg) (d := d - 1) (by omega) (hJ.pn.trans hP.1) hP2 hp
      have d1 := kr_dy1 (S := S) (h := hh J lg) (d := d - 1) (by omega) ht
      have hck := kr_clockV (S := S) (lg := lg) (d := d - 1) (by omega) hC' hV ht (smR_id J')
      have hca := kr_callS (S := S) (lg := lg) (d := d - 1) (p := p) (pl := vq I t) q (by omega) (hC'.dr hV ht) (by omega) (smR_id J') (fun j hj => by rw [Cr_en hC' hV ht hj]; exact Bn_en2 hS.2.2.2 hV ht hj)
      refine ms_aload_n dX11_call_0 rfl ?_
      refine ms_aload_n dX11_call_1 rfl ?_
      refine ms_iload_n dX11_call_2 rfl ?_
      refine qRV1 dX11_call_3 kX11_165 (by show _ < 178; first | decide | exact lt_sc (by omega) | exact lt_dy (by omega)) (by show (sh0 _).1 = _; first | rfl | rw [sh_sc (by omega)] | rw [sh_dy (by omega)]) (d := d - 1) (by show d - 1 + 1 ≤ d; omega) rfl (Nat.le_of_ble_eq_true rfl) (Nat.le_of_ble_eq_true rfl) (p1) rfl ?_
      refine ms_if_eq (tgt := 20) dX11_call_6 (by decide) (fun c6 => absurd c6 (by decide)) (fun c6 => ?_)
      refine ms_iload_n dX11_call_9 rfl ?_
      refine qRS1 dX11_call_10 kX11_168 (d := d - 1) (by show d - 1 + 1 ≤ d; omega) rfl (Nat.le_of_ble_eq_true rfl) (Nat.le_of_ble_eq_true rfl) (d1) rfl ?_
      refine ms_if_eq (tgt := 20) dX11_call_13 (by decide) (fun c13 => absurd c13 (by decide)) (fun c13 => ?_)
      refine ms_iconst (v := nI 0) dX11_call_16 (by decide) ?_
      refine ms_goto (tgt := 21) dX11_call_17 (by decide) ?_
      refine qRV1 dX11_call_21 kX11_138 (by show _ < 178; first | decide | exact lt_sc (by omega) | exact lt_dy (by omega)) (by show (sh0 _).1 = _; first | rfl | rw [sh_sc (by omega)] | rw [sh_dy (by omega)]) (d := d - 1) (by show d - 1 + 1 ≤ d; omega) rfl (Nat.le_of_ble_eq_true rfl) (Nat.le_of_ble_eq_true rfl) (hgw _ _) rfl ?_
      refine ms_if_ne (tgt := 29) dX11_call_24 (by decide) (fun c24 => ?_) (fun c24 => absurd c24 (by decide))
      refine ms_aload_n dX11_call_29 rfl ?_
      refine ms_iload_n dX11_call_30 rfl ?_
      refine qRV1 dX11_call_31 kX11_199 (by show _ < 178; first | decide | exact lt_sc (by omega) | exact lt_dy (by omega)) (by show (sh0 _).1 = _; first | rfl | rw [sh_sc (by omega)] | rw [sh_dy (by omega)]) (d := d - 1) (by show d - 1 + 1 ≤ d; omega) rfl (Nat.le_of_ble_eq_true rfl) (Nat.le_of_ble_eq_true rfl) (hck) rfl ?_
      refine ms_aload_n dX11_call_34 rfl ?_
      refine ms_iload_n dX11_call_35 rfl ?_
      refine ms_iload_n dX11_call_36 rfl ?_
      refine ms_iload_n dX11_call_37 rfl ?_
      refine qRV3 dX11_call_38 kX11_185 (by show _ < 178; first | decide | exact lt_sc (by omega) | exact lt_dy (by omega)) (by show (sh0 _).1 = _; first | rfl | rw [sh_sc (by omega)] | rw [sh_dy (by omega)]) (d := d - 1) (by show d - 1 + 1 ≤ d; omega) rfl rfl rfl (Nat.le_of_ble_eq_true rfl) (Nat.le_of_ble_eq_true rfl) (hca) rfl ?_
      refine ms_iret dX11_call_41 rfl rfl ⟨?_, ?_⟩
      · rfl
      · rfl
    · refine Okc_thr (k := 0) (E := xI) (b := some (.int (nI 0))) hI hC rfl (fun lg d hd => k_callT2 (by omega) hP hp hy) (fun lg d hd => ?_)
      have p1 := kr_pe1 (S := S) (J := I) (lg := lg) (d := d - 1) (by omega) (hC.pn.trans hP.1) hP2 hp
      have d1 := kr_dy0 (S := S) (h := hh I lg) (d := d - 1) (by omega) hy
      refine ms_aload_n dX11_call_0 rfl ?_
      refine ms_aload_n dX11_call_1 rfl ?_
      refine ms_iload_n dX11_call_2 rfl ?_
      refine qRV1 dX11_call_3 kX11_165 (by show _ < 178; first | decide | exact lt_sc (by omega) | exact lt_dy (by omega)) (by show (sh0 _).1 = _; first | rfl | rw [sh_sc (by omega)] | rw [sh_dy (by omega)]) (d := d - 1) (by show d - 1 + 1 ≤ d; omega) rfl (Nat.le_of_ble_eq_true rfl) (Nat.le_of_ble_eq_true rfl) (p1) rfl ?_
      refine ms_if_eq (tgt := 20) dX11_call_6 (by decide) (fun c6 => absurd c6 (by decide)) (fun c6 => ?_)
      refine ms_iload_n dX11_call_9 rfl ?_
      refine qRS1 dX11_call_10 kX11_168 (d := d - 1) (by show d - 1 + 1 ≤ d; omega) rfl (Nat.le_of_ble_eq_true rfl) (Nat.le_of_ble_eq_true rfl) (d1) rfl ?_
      refine ms_if_eq (tgt := 20) dX11_call_13 (by decide) (fun c13 => ?_) (fun c13 => absurd c13 (by decide))
      refine ms_iconst (v := nI 1) dX11_call_20 (by decide) ?_
      refine qRV1 dX11_call_21 kX11_138 (by show _ < 178; first | decide | exact lt_sc (by omega) | exact lt_dy (by omega)) (by show (sh0 _).1 = _; first | rfl | rw [sh_sc (by omega)] | rw [sh_dy (by omega)]) (d := d - 1) (by show d - 1 + 1 ≤ d; omega) rfl (Nat.le_of_ble_eq_true rfl) (Nat.le_of_ble_eq_true rfl) (kr_gwk 0 (by decide)) rfl ?_
      refine ms_if_ne (tgt := 29) dX11_call_24 (by decide) (fun c24 => absurd c24 (by decide)) (fun c24 => ?_)
      refine ms_iconst (v := nI 0) dX11_call_27 (by decide) ?_
      refine ms_iret dX11_call_28 rfl rfl ⟨?_, ?_⟩
      · rfl
      · rfl
  · refine Okc_thr (k := 0) (E := xI) (b := some (.int (nI 0))) hI hC rfl (fun lg d hd => k_callT1 (by omega) hP hx) (fun lg d hd => ?_)
    have p1 := kr_pe0 (S := S) (J := I) (lg := lg) (d := d - 1) (by omega) (hC.pn.trans hP.1) hP2 hx
    refine ms_aload_n dX11_call_0 rfl ?_
    refine ms_aload_n dX11_call_1 rfl ?_
    refine ms_iload_n dX11_call_2 rfl ?_
    refine qRV1 dX11_call_3 kX11_165 (by show _ < 178; first | decide | exact lt_sc (by omega) | exact lt_dy (by omega)) (by show (sh0 _).1 = _; first | rfl | rw [sh_sc (by omega)] | rw [sh_dy (by omega)]) (d := d - 1) (by show d - 1 + 1 ≤ d; omega) rfl (Nat.le_of_ble_eq_true rfl) (Nat.le_of_ble_eq_true rfl) (p1) rfl ?_
    refine ms_if_eq (tgt := 20) dX11_call_6 (by decide) (fun c6 => ?_) (fun c6 => absurd c6 (by decide))
    refine ms_iconst (v := nI 1) dX11_call_20 (by decide) ?_
    refine qRV1 dX11_call_21 kX11_138 (by show _ < 178; first | decide | exact lt_sc (by omega) | exact lt_dy (by omega)) (by show (sh0 _).1 = _; first | rfl | rw [sh_sc (by omega)] | rw [sh_dy (by omega)]) (d := d - 1) (by show d - 1 + 1 ≤ d; omega) rfl (Nat.le_of_ble_eq_true rfl) (Nat.le_of_ble_eq_true rfl) (kr_gwk 0 (by decide)) rfl ?_
    refine ms_if_ne (tgt := 29) dX11_call_24 (by decide) (fun c24 => absurd c24 (by decide)) (fun c24 => ?_)
    refine ms_iconst (v := nI 0) dX11_call_27 (by decide) ?_
    refine ms_iret dX11_call_28 rfl rfl ⟨?_, ?_⟩
    · rfl
    · rfl

