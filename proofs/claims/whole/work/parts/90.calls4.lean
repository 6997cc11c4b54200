-- NAME calls4
/-! calls: people, places, light -/
/-- one number told where nothing else of a call's is spoken of -/
theorem Iv_free {c c2 : Nat} {I : m_I} {a b : Nat} {x : Int32} (h : Iv c I) (hc : c ≤ c2) (hu : ¬ usd a b) : Iv c2 (m_up2 I a b x) := Iv_same h hc (fun p q z => m_up2_ne (fun y => hu (by rw [← y.1, ← y.2]; exact z)))
theorem Iv_71 {c : Nat} {I : m_I} {k : Nat} {x : Int32} (hI : Iv c I) (hx : vN x ≤ 300) : Iv c (m_up2 I 71 k x) := by
  obtain ⟨h1, h2, h3, h4, h5, h6, h7, h8, h9, h10, h11, h12⟩ := hI
  have hm := h1.1
  have hf : ∀ a d, a ≠ 71 → m_up2 I 71 k x a d = I a d := fun a d h => m_up2_ne (by omega)
  have q : ∀ u d, u < 20 → m_up2 I 71 k x (scI u) d = I (scI u) d := fun u d hu => hf _ _ (by unfold scI; omega)
  refine ⟨Vw_cong h1 (hf _ _ (by omega)) (fun t ht => ⟨hf _ _ (by unfold dyI; omega), fun j => hf _ _ (by unfold rwI; omega)⟩) (fun u hu => ⟨q u 0 hu, q u 15 hu⟩), i2_c h2 (hf _ _ (by omega)) (hf _ _ (by omega)) (hf _ _ (by omega)), i3_c h3 (hf _ _ (by omega)) (fun u hu => q u 4 hu), i4_c hm h4 (hf _ _ (by omega)) (hf _ _ (by omega)) (fun u hu => q u 0 hu), i5_c h5 (hf _ _ (by omega)) (fun k => hf _ _ (by omega)), i6_c h6 (fun u hu => ⟨q u 7 hu, q u 3 hu, q u 14 hu⟩), i7_c h7 (hf _ _ (by omega)) (fun u hu _ => ⟨q u 7 hu, q u 15 hu, q u 12 hu, q u 11 hu, fun t _ => ⟨hf _ _ (by unfold waI; omega), hf _ _ (by unfold leI; omega)⟩⟩), i8_c h8 (hf _ _ (by omega)) (fun u hu => q u 5 hu), i9_c hm h9 (hf _ _ (by omega)) (fun u hu => ⟨q u 11 hu, q u 15 hu⟩), i10_c h10 (hf _ _ (by omega)) (fun t ht => hf _ _ (by unfold dyI; omega)), ⟨fun t ht => ?_, fun j hj => ?_⟩, i12_c h12 (Nat.le_refl _) (hf _ _ (by omega)) (hf _ _ (by omega))⟩
  · rw [hf _ _ (by unfold dyI; omega)]
    exact h11.1 t ht
  · unfold m_up2
    split
    · exact hx
    · exact h11.2 j hj
theorem Iv_dy0 {c : Nat} {I : m_I} {t : Nat} {x : Int32} (hI : Iv c I) (ht : t < 30) (hx : vN x ≤ 1200) : Iv c (m_up2 I (dyI t) 0 x) := by
  obtain ⟨h1, h2, h3, h4, h5, h6, h7, h8, h9, h10, h11, h12⟩ := hI
  have hm := h1.1
  have hf : ∀ a d, ¬ (a = dyI t ∧ d = 0) → m_up2 I (dyI t) 0 x a d = I a d := fun a d h => m_up2_ne h
  have q : ∀ u d, u < 20 → m_up2 I (dyI t) 0 x (scI u) d = I (scI u) d := fun u d hu => hf _ _ (by unfold scI dyI; omega)
  refine ⟨Vw_cong h1 (hf _ _ (by omega)) (fun t ht => ⟨hf _ _ (by omega), fun j => hf _ _ (by unfold rwI dyI; omega)⟩) (fun u hu => ⟨q u 0 hu, q u 15 hu⟩), i2_c h2 (hf _ _ (by unfold dyI; omega)) (hf _ _ (by unfold dyI; omega)) (hf _ _ (by unfold dyI; omega)), i3_c h3 (hf _ _ (by unfold dyI; omega)) (fun u hu => q u 4 hu), i4_c hm h4 (hf _ _ (by unfold dyI; omega)) (hf _ _ (by unfold dyI; omega)) (fun u hu => q u 0 hu), i5_c h5 (hf _ _ (by unfold dyI; omega)) (fun k => hf _ _ (by unfold dyI; omega)), i6_c h6 (fun u hu => ⟨q u 7 hu, q u 3 hu, q u 14 hu⟩), i7_c h7 (hf _ _ (by unfold dyI; omega)) (fun u hu _ => ⟨q u 7 hu, q u 15 hu, q u 12 hu, q u 11 hu, fun t _ => ⟨hf _ _ (by unfold waI dyI; omega), hf _ _ (by unfold leI dyI; omega)⟩⟩), i8_c h8 (hf _ _ (by unfold dyI; omega)) (fun u hu => q u 5 hu), i9_c hm h9 (hf _ _ (by unfold dyI; omega)) (fun u hu => ⟨q u 11 hu, q u 15 hu⟩), i10_c h10 (hf _ _ (by unfold dyI; omega)) (fun t ht => hf _ _ (by omega)), ⟨fun j hj => ?_, fun j hj => ?_⟩, i12_c h12 (Nat.le_refl _) (hf _ _ (by unfold dyI; omega)) (hf _ _ (by unfold dyI; omega))⟩
  · unfold m_up2
    split
    · exact hx
    · exact h11.1 j hj
  · rw [hf _ _ (by unfold dyI; omega)]
    exact h11.2 j hj
theorem vN_le {x : Int32} {n : Nat} (hn : n < 2147483648) (h : nI 0 ≤ x ∧ x ≤ nI n) : vN x ≤ n := by
  obtain ⟨j, hj, rfl⟩ := nI_of (Int32.not_lt.mpr h.1)
  rw [vN_nI (by omega)]
  exact (nI_leI hj (by omega)).mp h.2
theorem o_light {S : m_S} {c : Nat} {I : m_I} (v x y z : Int32) (hI : Iv c I) (hC : Cr I I) : Okc S c I M_X10_light M_X11_light [.ref 0, .int v, .int x, .int y, .int z] [.ref 143, .int v, .int x, .int y, .int z] [xI, xA] := by
  have hm := hI.1.1
  have hin : ∀ (lg : Int64) (d : Nat) (J : m_I) (a b e : Int32), m_R S M_X11_in (d - 1) [.int a, .int b, .int e] (hh J lg) (some (.int (bi (inB a b e)))) (hh J lg) := fun lg d J a b e => kr_in
  rcases ix_or v (n := 30) (by omega) with ⟨t, ht, rfl⟩ | hv
  · by_cases hb : (nI 0 ≤ x ∧ x ≤ nI 1200) ∧ (nI 0 ≤ y ∧ y ≤ nI 1440) ∧ (y ≤ z ∧ z ≤ nI 1440)
    · obtain ⟨b1, b2, b3⟩ := hb
      have hI1 : Iv (c + 1) (m_up2 (m_up2 (m_up2 I (dyI t) 0 x) (dyI t) 1 y) (dyI t) 2 z) := Iv_free (Iv_free (Iv_dy0 hI ht (vN_le (by decide) b1)) (Nat.le_refl _) (by unfold usd dyI; omega)) (by omega) (by unfold usd dyI; omega)
      refine Okc_go none hm hC (fun lg d hd => k_light (by omega) ht b1 b2 b3) (fun a d h => (m_up2_ne (by unfold dyI; omega)).trans ((m_up2_ne (by unfold dyI; omega)).trans (m_up2_ne (by unfold dyI; omega)))) hI1 (fun J J' hJ hC' hgw hne hz => ?_)
      have e1 : vm (m_up2 I (dyI t) 0 x) = vm I := congrArg vN (m_up2_ne (by unfold dyI; omega))
      have e2 : vm (m_up2 (m_up2 I (dyI t) 0 x) (dyI t) 1 y) = vm I := (congrArg vN (m_up2_ne (by unfold dyI; omega))).trans e1
      have c1 : Cr (m_up2 I (dyI t) 0 x) (m_up2 J' 168 t x) := Cr_up hm hC' (a := 168) (b := t) (by unfold lvR; omega) rfl (by unfold dyI; omega) (by unfold dyI; omega)
      have c2 := Cr_up (x := y) (by rw [e1]; exact hm) c1 (a := 169) (b := t) (c := dyI t) (d := 1) (by unfold lvR; omega) rfl (by unfold dyI; omega) (by unfold dyI; omega)
      have c3 := Cr_up (x := z) (by rw [e2]; exact hm) c2 (a := 170) (b := t) (c := dyI t) (d := 2) (by unfold lvR; omega) rfl (by unfold dyI; omega) (by unfold dyI; omega)
      refine ⟨_, fun lg d hd => ?_, c3, fQ_tr (fQ_up (by decide)) (fQ_tr (fQ_up (by decide)) (fQ_up (by decide))), (m_up2_ne (by omega)).trans ((m_up2_ne (by omega)).trans (m_up2_ne (by omega)))⟩
      have hdy := kr_dy1 (S := S) (h := hh J lg) (d := d - 1) (by omega) ht
      refine ms_iload_n dX11_light_0 rfl ?_
      refine qRS1 dX11_light_1 kX11_168 (d := d - 1) (by show d - 1 + 1 ≤ d; omega) rfl (Nat.le_of_ble_eq_true rfl) (Nat.le_of_ble_eq_true rfl) (hdy) rfl ?_
      refine ms_istore dX11_light_4 (Nat.le_of_ble_eq_true rfl) ?_
      refine ms_iload_n dX11_light_6 rfl ?_
      refine ms_iconst (v := nI 0) dX11_light_7 (by decide) ?_
      refine ms_sipush (v := nI 1200) dX11_light_8 (by decide) ?_
      refine qRS3 dX11_light_11 kX11_117 (d := d - 1) (by show d - 1 + 1 ≤ d; omega) rfl rfl rfl (Nat.le_of_ble_eq_true rfl) (Nat.le_of_ble_eq_true rfl) (kr_in1 b1) rfl ?_
      refine ms_if_eq (tgt := 44) dX11_light_14 (by decide) (fun c14 => absurd c14 (by decide)) (fun c14 => ?_)
      refine ms_iload_n dX11_light_17 rfl ?_
      refine ms_iconst (v := nI 0) dX11_light_18 (by decide) ?_
      refine ms_sipush (v := nI 1440) dX11_light_19 (by decide) ?_
      refine qRS3 dX11_light_22 kX11_117 (d := d - 1) (by show d - 1 + 1 ≤ d; omega) rfl rfl rfl (Nat.le_of_ble_eq_true rfl) (Nat.le_of_ble_eq_true rfl) (kr_in1 b2) rfl ?_
      refine ms_if_eq (tgt := 44) dX11_light_25 (by decide) (fun c25 => absurd c25 (by decide)) (fun c25 => ?_)
      refine ms_iload dX11_light_28 rfl ?_
      refine ms_iload_n dX11_light_30 rfl ?_
      refine ms_sipush (v := nI 1440) dX11_light_31 (by decide) ?_
      refine qRS3 dX11_light_34 kX11_117 (d := d - 1) (by show d - 1 + 1 ≤ d; omega) rfl rfl rfl (Nat.le_of_ble_eq_true rfl) (Nat.le_of_ble_eq_true rfl) (kr_in1 b3) rfl ?_
      refine ms_if_eq (tgt := 44) dX11_light_37 (by decide) (fun c37 => absurd c37 (by decide)) (fun c37 => ?_)
      refine ms_iconst (v := nI 1) dX11_light_40 (by decide) ?_
      refine ms_goto (tgt := 45) dX11_light_41 (by decide) ?_
      refine ms_istore dX11_light_45 (Nat.le_of_ble_eq_true rfl) ?_
      refine ms_aload_n dX11_light_47 rfl ?_
      refine ms_iload dX11_light_48 rfl ?_
      refine ms_if_ne (tgt := 57) dX11_light_50 (by decide) (fun c50 => ?_) (fun c50 => absurd c50 (by decide))
      refine ms_iload dX11_light_57 rfl ?_
      refine ms_if_eq (tgt := 66) dX11_light_59 (by decide) (fun c59 => absurd c59 (by decide)) (fun c59 => ?_)
      refine ms_iconst (v := nI 0) dX11_light_62 (by decide) ?_
      refine ms_goto (tgt := 67) dX11_light_63 (by decide) ?_
      refine qRV1 dX11_light_67 kX11_138 (by show _ < 178; first | decide | exact lt_sc (by omega) | exact lt_dy (by omega)) (by show (sh0 _).1 = _; first | rfl | rw [sh_sc (by omega)] | rw [sh_dy (by omega)]) (d := d - 1) (by show d - 1 + 1 ≤ d; omega) rfl (Nat.le_of_ble_eq_true rfl) (Nat.le_of_ble_eq_true rfl) (hgw _ _) rfl ?_
      refine ms_if_eq (tgt := 95) dX11_light_70 (by decide) (fun c70 => absurd c70 (by decide)) (fun c70 => ?_)
      refine ms_aload_n dX11_light_73 rfl ?_
      refine q_getr dX11_light_74 fX11_83 kd_11_32 (by first | decide | exact lt_sc (by omega) | exact lt_dy (by omega) | exact lt_rw (by omega) | exact lt_wa (by omega) | exact lt_le (by omega)) (by first | rfl | rw [sh_sc (by omega)] | rw [sh_dy (by omega)]) (by first | rfl | exact rf_wa (by omega) | exact rf_le (by omega) | exact rf_rw (by omega)) ?_
      refine ms_iload_n dX11_light_77 rfl ?_
      refine ms_iload_n dX11_light_78 rfl ?_
      refine q_iast dX11_light_79 (by first | decide | exact lt_sc (by omega) | exact lt_dy (by omega) | exact lt_rw (by omega) | exact lt_wa (by omega) | exact lt_le (by omega)) (by first | rfl | exact sh_rw (by omega) | exact sh_wa (by omega) | exact sh_le (by omega)) (by omega) (by decide) ?_
      refine ms_aload_n dX11_light_80 rfl ?_
      refine q_getr dX11_light_81 fX11_86 kd_11_33 (by first | decide | exact lt_sc (by omega) | exact lt_dy (by omega) | exact lt_rw (by omega) | exact lt_wa (by omega) | exact lt_le (by omega)) (by first | rfl | rw [sh_sc (by omega)] | rw [sh_dy (by omega)]) (by first | rfl | exact rf_wa (by omega) | exact rf_le (by omega) | exact rf_rw (by omega)) ?_
      refine ms_iload_n dX11_light_84 rfl ?_
      refine ms_iload_n dX11_light_85 rfl ?_
      refine q_iast dX11_light_86 (by first | decide | exact lt_sc (by omega) | exact lt_dy (by omega) | exact lt_rw (by omega) | exact lt_wa (by omega) | exact lt_le (by omega)) (by first | rfl | exact sh_rw (by omega) | exact sh_wa (by omega) | exact sh_le (by omega)) (by omega) (by decide) ?_
      refine ms_aload_n dX11_light_87 rfl ?_
      refine q_getr dX11_light_88 fX11_89 kd_11_34 (by first | decide | exact lt_sc (by omega) | exact lt_dy (by omega) | exact lt_rw (by omega) | exact lt_wa (by omega) | exact lt_le (by omega)) (by first | rfl | rw [sh_sc (by omega)] | rw [sh_dy (by omega)]) (by first | rfl | exact rf_wa (by omega) | exact rf_le (by omega) | exact rf_rw (by omega)) ?_
      refine ms_iload_n dX11_light_91 rfl ?_
      refine ms_iload dX11_light_92 rfl ?_
      refine q_iast dX11_light_94 (by first | decide | exact lt_sc (by omega) | exact lt_dy (by omega) | exact lt_rw (by omega) | exact lt_wa (by omega) | exact lt_le (by omega)) (by first | rfl | exact sh_rw (by omega) | exact sh_wa (by omega) | exact sh_le (by omega)) (by omega) (by decide) ?_
      refine ms_vret dX11_light_95 rfl rfl ⟨rfl, ?_⟩
      · rfl
    · refine Okc_thr (k := 1) (E := xA) (b := none) hI hC rfl (fun lg d hd => ?_) (fun lg d hd => ?_)
      · exact k_lightT2 (by omega) ht hb
      · have hdy := kr_dy1 (S := S) (h := hh I lg) (d := d - 1) (by omega) ht
        by_cases b1 : nI 0 ≤ x ∧ x ≤ nI 1200
        · by_cases b2 : nI 0 ≤ y ∧ y ≤ nI 1440
          · refine ms_iload_n dX11_light_0 rfl ?_
            refine qRS1 dX11_light_1 kX11_168 (d := d - 1) (by show d - 1 + 1 ≤ d; omega) rfl (Nat.le_of_ble_eq_true rfl) (Nat.le_of_ble_eq_true rfl) (hdy) rfl ?_
            refine ms_istore dX11_light_4 (Nat.le_of_ble_eq_true rfl) ?_
            refine ms_iload_n dX11_light_6 rfl ?_
            refine ms_iconst (v := nI 0) dX11_light_7 (by decide) ?_
            refine ms_sipush (v := nI 1200) dX11_light_8 (by decide) ?_
            refine qRS3 dX11_light_11 kX11_117 (d := d - 1) (by show d - 1 + 1 ≤ d; omega) rfl rfl rfl (Nat.le_of_ble_eq_true rfl) (Nat.le_of_ble_eq_true rfl) (kr_in1 b1) rfl ?_
            refine ms_if_eq (tgt := 44) dX11_light_14 (by decide) (fun c14 => absurd c14 (by decide)) (fun c14 => ?_)
            refine ms_iload_n dX11_light_17 rfl ?_
            refine ms_iconst (v := nI 0) dX11_light_18 (by decide) ?_
            refine ms_sipush (v := nI 1440) dX11_light_19 (by decide) ?_
            refine qRS3 dX11_light_22 kX11_117 (d := d - 1) (by show d - 1 + 1 ≤ d; omega) rfl rfl rfl (Nat.le_of_ble_eq_true rfl) (Nat.le_of_ble_eq_true rfl) (kr_in1 b2) rfl ?_
            refine ms_if_eq (tgt := 44) dX11_light_25 (by decide) (fun c25 => absurd c25 (by decide)) (fun c25 => ?_)
            refine ms_iload dX11_light_28 rfl ?_
            refine ms_iload_n dX11_light_30 rfl ?_
            refine ms_sipush (v := nI 1440) dX11_light_31 (by decide) ?_
            refine qRS3 dX11_light_34 kX11_117 (d := d - 1) (by show d - 1 + 1 ≤ d; omega) rfl rfl rfl (Nat.le_of_ble_eq_true rfl) (Nat.le_of_ble_eq_true rfl) (kr_in0 (fun b3 => hb ⟨b1, b2, b3⟩)) rfl ?_
            refine ms_if_eq (tgt := 44) dX11_light_37 (by decide) (fun c37 => ?_) (fun c37 => absurd c37 (by decide))
            refine ms_iconst (v := nI 0) dX11_light_44 (by decide) ?_
            refine ms_istore dX11_light_45 (Nat.le_of_ble_eq_true rfl) ?_
            refine ms_aload_n dX11_light_47 rfl ?_
            refine ms_iload dX11_light_48 rfl ?_
            refine ms_if_ne (tgt := 57) dX11_light_50 (by decide) (fun c50 => ?_) (fun c50 => absurd c50 (by decide))
            refine ms_iload dX11_light_57 rfl ?_
            refine ms_if_eq (tgt := 66) dX11_light_59 (by decide) (fun c59 => ?_) (fun c59 => absurd c59 (by decide))
            refine ms_iconst (v := nI 2) dX11_light_66 (by decide) ?_
            refine qRV1 dX11_light_67 kX11_138 (by show _ < 178; first | decide | exact lt_sc (by omega) | exact lt_dy (by omega)) (by show (sh0 _).1 = _; first | rfl | rw [sh_sc (by omega)] | rw [sh_dy (by omega)]) (d := d - 1) (by show d - 1 + 1 ≤ d; omega) rfl (Nat.le_of_ble_eq_true rfl) (Nat.le_of_ble_eq_true rfl) (kr_gwk 1 (by decide)) rfl ?_
            refine ms_if_eq (tgt := 95) dX11_light_70 (by decide) (fun c70 => ?_) (fun c70 => absurd c70 (by decide))
            refine ms_vret dX11_light_95 rfl rfl ⟨rfl, ?_⟩
            · rfl
          · refine ms_iload_n dX11_light_0 rfl ?_
            refine qRS1 dX11_light_1 kX11_168 (d := d - 1) (by show d - 1 + 1 ≤ d; omega) rfl (Nat.le_of_ble_eq_true rfl) (Nat.le_of_ble_eq_true rfl) (hdy) rfl ?_
            refine ms_istore dX11_light_4 (Nat.le_of_ble_eq_true rfl) ?_
            refine ms_iload_n dX11_light_6 rfl ?_
            refine ms_iconst (v := nI 0) dX11_light_7 (by decide) ?_
            refine ms_sipush (v := nI 1200) dX11_light_8 (by decide) ?_
            refine qRS3 dX11_light_11 kX11_117 (d := d - 1) (by show d - 1 + 1 ≤ d; omega) rfl rfl rfl (Nat.le_of_ble_eq_true rfl) (Nat.le_of_ble_eq_true rfl) (kr_in1 b1) rfl ?_
            refine ms_if_eq (tgt := 44) dX11_light_14 (by decide) (fun c14 => absurd c14 (by decide)) (fun c14 => ?_)
            refine ms_iload_n dX11_light_17 rfl ?_
            refine ms_iconst (v := nI 0) dX11_light_18 (by decide) ?_
            refine ms_sipush (v := nI 1440) dX11_light_19 (by decide) ?_
            refine qRS3 dX11_light_22 kX11_117 (d := d - 1) (by show d - 1 + 1 ≤ d; omega) rfl rfl rfl (Nat.le_of_ble_eq_true rfl) (Nat.le_of_ble_eq_true rfl) (kr_in0 b2) rfl ?_
            refine ms_if_eq (tgt := 44) dX11_light_25 (by decide) (fun c25 => ?_) (fun c25 => absurd c25 (by decide))
            refine ms_iconst (v := nI 0) dX11_light_44 (by decide) ?_
            refine ms_istore dX11_light_45 (Nat.le_of_ble_eq_true rfl) ?_
            refine ms_aload_n dX11_light_47 rfl ?_
            refine ms_iload dX11_light_48 rfl ?_
            refine ms_if_ne (tgt := 57) dX11_light_50 (by decide) (fun c50 => ?_) (fun c50 => absurd c50 (by decide))
            refine ms_iload dX11_light_57 rfl ?_
            refine ms_if_eq (tgt := 66) dX11_light_59 (by decide) (fun c59 => ?_) (fun c59 => absurd c59 (by decide))
            refine ms_iconst (v := nI 2) dX11_light_66 (by decide) ?_
            refine qRV1 dX11_light_67 kX11_138 (by show _ < 178; first | decide | exact lt_sc (by omega) | exact lt_dy (by omega)) (by show (sh0 _).1 = _; first | rfl | rw [sh_sc (by omega)] | rw [sh_dy (by omega)]) (d := d - 1) (by show d - 1 + 1 ≤ d; omega) rfl (Nat.le_of_ble_eq_true rfl) (Nat.le_of_ble_eq_true rfl) (kr_gwk 1 (by decide)) rfl ?_
            refine ms_if_eq (tgt := 95) dX11_light_70 (by decide) (fun c70 => ?_) (fun c70 => absurd c70 (by decide))
            refine ms_vret dX11_light_95 rfl rfl ⟨rfl, ?_⟩
            · rfl
        · refine ms_iload_n dX11_light_0 rfl ?_
          refine qRS1 dX11_light_1 kX11_168 (d := d - 1) (by show d - 1 + 1 ≤ d; omega) rfl (Nat.le_of_ble_eq_true rfl) (Nat.le_of_ble_eq_true rfl) (hdy) rfl ?_
          refine ms_istore dX11_light_4 (Nat.le_of_ble_eq_true rfl) ?_
          refine ms_iload_n dX11_light_6 rfl ?_
          refine ms_iconst (v := nI 0) dX11_light_7 (by decide) ?_
          refine ms_sipush (v := nI 1200) dX11_light_8 (by decide) ?_
          refine qRS3 dX11_light_11 kX11_117 (d := d - 1) (by show d - 1 + 1 ≤ d; omega) rfl rfl rfl (Nat.le_of_ble_eq_true rfl) (Nat.le_of_ble_eq_true rfl) (kr_in0 b1) rfl ?_
          refine ms_if_eq (tgt := 44) dX11_light_14 (by decide) (fun c14 => ?_) (fun c14 => absurd c14 (by decide))
          refine ms_iconst (v := nI 0) dX11_light_44 (by decide) ?_
          refine ms_istore dX11_light_45 (Nat.le_of_ble_eq_true rfl) ?_
          refine ms_aload_n dX11_light_47 rfl ?_
          refine ms_iload dX11_light_48 rfl ?_
          refine ms_if_ne (tgt := 57) dX11_light_50 (by decide) (fun c50 => ?_) (fun c50 => absurd c50 (by decide))
          refine ms_iload dX11_light_57 rfl ?_
          refine ms_if_eq (tgt := 66) dX11_light_59 (by decide) (fun c59 => ?_) (fun c59 => absurd c59 (by decide))
          refine ms_iconst (v := nI 2) dX11_light_66 (by decide) ?_
          refine qRV1 dX11_light_67 kX11_138 (by show _ < 178; first | decide | exact lt_sc (by omega) | exact lt_dy (by omega)) (by show (sh0 _).1 = _; first | rfl | rw [sh_sc (by omega)] | rw [sh_dy (by omega)]) (d := d - 1) (by show d - 1 + 1 ≤ d; omega) rfl (Nat.le_of_ble_eq_true rfl) (Nat.le_of_ble_eq_true rfl) (kr_gwk 1 (by decide)) rfl ?_
          refine ms_if_eq (tgt := 95) dX11_light_70 (by decide) (fun c70 => ?_) (fun c70 => absurd c70 (by decide))
          refine ms_vret dX11_light_95 rfl rfl ⟨rfl, ?_⟩
          · rfl
  · refine Okc_thr (k := 0) (E := xI) (b := none) hI hC rfl (fun lg d hd => k_lightT1 (by omega) hv) (fun lg d hd => ?_)
    have hdy := kr_dy0 (S := S) (h := hh I lg) (d := d - 1) (by omega) hv
    have tail : ∀ w : Bool, m_W S (M_X11_light, d, fun w9 g => w9 = none ∧ g = hh (m_up2 I 143 0 (nI (0 + 1))) lg, fun _ _ => False) 45 [some (.ref 143), some (.int v), some (.int x), some (.int y), some (.int z), some (.int (bi false)), none] [.int (bi w)] (hh I lg) 0 0 := by
      intro w
      refine ms_istore dX11_light_45 (Nat.le_of_ble_eq_true rfl) ?_
      refine ms_aload_n dX11_light_47 rfl ?_
      refine ms_iload dX11_light_48 rfl ?_
      refine ms_if_ne (tgt := 57) dX11_light_50 (by decide) (fun c50 => absurd c50 (by decide)) (fun c50 => ?_)
      refine ms_iconst (v := nI 1) dX11_light_53 (by decide) ?_
      refine ms_goto (tgt := 67) dX11_light_54 (by decide) ?_
      refine qRV1 dX11_light_67 kX11_138 (by show _ < 178; first | decide | exact lt_sc (by omega) | exact lt_dy (by omega)) (by show (sh0 _).1 = _; first | rfl | rw [sh_sc (by omega)] | rw [sh_dy (by omega)]) (d := d - 1) (by show d - 1 + 1 ≤ d; omega) rfl (Nat.le_of_ble_eq_true rfl) (Nat.le_of_ble_eq_true rfl) (kr_gwk 0 (by decide)) rfl ?_
      refine ms_if_eq (tgt := 95) dX11_light_70 (by decide) (fun c70 => ?_) (fun c70 => absurd c70 (by decide))
      refine ms_vret dX11_light_95 rfl rfl ⟨rfl, ?_⟩
      · rfl
    have no : m_W S (M_X11_light, d, fun w9 g => w9 = none ∧ g = hh (m_up2 I 143 0 (nI (0 + 1))) lg, fun _ _ => False) 44 [some (.ref 143), some (.int v), some (.int x), some (.int y), some (.int z), some (.int (bi false)), none] [] (hh I lg) 0 0 := by
      refine ms_iconst (v := nI 0) dX11_light_44 (by decide) ?_
      exact tail false
    refine ms_iload_n dX11_light_0 rfl ?_
    refine qRS1 dX11_light_1 kX11_168 (d := d - 1) (by show d - 1 + 1 ≤ d; omega) rfl (Nat.le_of_ble_eq_true rfl) (Nat.le_of_ble_eq_true rfl) (hdy) rfl ?_
    refine ms_istore dX11_light_4 (Nat.le_of_ble_eq_true rfl) ?_
    refine ms_iload_n dX11_light_6 rfl ?_
    refine ms_iconst (v := nI 0) dX11_light_7 (by decide) ?_
    refine ms_sipush (v := nI 1200) dX11_light_8 (by decide) ?_
    refine qRS3 dX11_light_11 kX11_117 (d := d - 1) (by show d - 1 + 1 ≤ d; omega) rfl rfl rfl (Nat.le_of_ble_eq_true rfl) (Nat.le_of_ble_eq_true rfl) (kr_in) rfl ?_
    refine ms_if_eq (tgt := 44) dX11_light_14 (by decide) (fun c14 => ?_) (fun c14 => ?_)
    · exact no
    · refine ms_iload_n dX11_light_17 rfl ?_
      refine ms_iconst (v := nI 0) dX11_light_18 (by decide) ?_
      refine ms_sipush (v := nI 1440) dX11_light_19 (by decide) ?_
      refine qRS3 dX11_light_22 kX11_117 (d := d - 1) (by show d - 1 + 1 ≤ d; omega) rfl rfl rfl (Nat.le_of_ble_eq_true rfl) (Nat.le_of_ble_eq_true rfl) (kr_in) rfl ?_
      refine ms_if_eq (tgt := 44) dX11_light_25 (by decide) (fun c25 => ?_) (fun c25 => ?_)
      · exact no
      · refine ms_iload dX11_light_28 rfl ?_
        refine ms_iload_n dX11_light_30 rfl ?_
        refine ms_sipush (v := nI 1440) dX11_light_31 (by decide) ?_
        refine qRS3 dX11_light_34 kX11_117 (d := d - 1) (by show d - 1 + 1 ≤ d; omega) rfl rfl rfl (Nat.le_of_ble_eq_true rfl) (Nat.le_of_ble_eq_true rfl) (kr_in) rfl ?_
        refine ms_if_eq (tgt := 44) dX11_light_37 (by decide) (fun c37 => ?_) (fun c37 => ?_)
        · exact no
        · refine ms_iconst (v := nI 1) dX11_light_40 (by decide) ?_
          refine ms_goto (tgt := 45) dX11_light_41 (by decide) ?_
          exact tail true
theorem o_move {S : m_S} {c : Nat} {I : m_I} (x y z : Int32) (hI : Iv c I) (hC : Cr I I) : Okc S c I M_X10_move M_X11_move [.ref 0, .int x, .int y, .int z] [.ref 143, .int x, .int y, .int z] [xI, xA] := by
  have hm := hI.1.1
  have hL := Iv_Lc hI
  have hL2 := hL.2
  rcases ix_or x (n := vlc I) (by omega) with ⟨a, ha, rfl⟩ | hx
  · rcases ix_or y (n := vlc I) (by omega) with ⟨b, hb, rfl⟩ | hy
    · by_cases hz : (nI 0 ≤ z ∧ z ≤ nI 300) ∧ a ≠ b
      · obtain ⟨z1, z2⟩ := hz
        have hI1 : Iv (c + 1) (m_up2 (m_up2 I 71 (a * 6 + b) z) 71 (b * 6 + a) z) := Iv_same (Iv_71 (Iv_71 hI (vN_le (by decide) z1)) (vN_le (by decide) z1)) (by omega) (fun _ _ _ => rfl)
        refine Okc_go _ hm hC (fun lg d hd => k_move (by omega) hL ha hb z2 z1) (fun p q h => (m_up2_ne (by omega)).trans (m_up2_ne (by omega))) hI1 (fun J J' hJ hC' hgw hne hz => ?_)
        have e1 : vm (m_up2 I 71 (a * 6 + b) z) = vm I := congrArg vN (m_up2_ne (by omega))
        have c1 : Cr (m_up2 I 71 (a * 6 + b) z) (m_up2 J' 167 (a * 6 + b) z) := Cr_up hm hC' (a := 167) (b := a * 6 + b) (by unfold lvR; omega) rfl (by omega) (by omega)
        have c2 := Cr_up (x := z) (by rw [e1]; exact hm) c1 (a := 167) (b := b * 6 + a) (c := 71) (d := b * 6 + a) (by unfold lvR; omega) rfl (by omega) (by omega)
        refine ⟨_, fun lg d hd => ?_, c2, fQ_tr (fQ_up (by decide)) (fQ_up (by decide)), (m_up2_ne (by omega)).trans (m_up2_ne (by omega))⟩
        have p1 := kr_pl1 (S := S) (J := J) (lg := lg) (d := d - 1) (by omega) (hJ.lc.trans hL.1) hL2 ha
        have p2 := kr_pl1 (S := S) (J := J) (lg := lg) (d := d - 1) (by omega) (hJ.lc.trans hL.1) hL2 hb
        have hmv : J' 167 (6 * a + b) = mvC I a b := by
          rw [hC'.mv (by omega), Nat.mul_comm 6]
          exact (if_neg z2).symm
        rw [Nat.mul_comm a 6, Nat.mul_comm b 6]
        refine ms_aload_n dX11_move_0 rfl ?_
        refine ms_iload_n dX11_move_1 rfl ?_
        refine qRV1 dX11_move_2 kX11_135 (by show _ < 178; first | decide | exact lt_sc (by omega) | exact lt_dy (by omega)) (by show (sh0 _).1 = _; first | rfl | rw [sh_sc (by omega)] | rw [sh_dy (by omega)]) (d := d - 1) (by show d - 1 + 1 ≤ d; omega) rfl (Nat.le_of_ble_eq_true rfl) (Nat.le_of_ble_eq_true rfl) (p1) rfl ?_
        refine ms_if_eq (tgt := 20) dX11_move_5 (by decide) (fun c5 => absurd c5 (by decide)) (fun c5 => ?_)
        refine ms_aload_n dX11_move_8 rfl ?_
        refine ms_iload_n dX11_move_9 rfl ?_
        refine qRV1 dX11_move_10 kX11_135 (by show _ < 178; first | decide | exact lt_sc (by omega) | exact lt_dy (by omega)) (by show (sh0 _).1 = _; first | rfl | rw [sh_sc (by omega)] | rw [sh_dy (by omega)]) (d := d - 1) (by show d - 1 + 1 ≤ d; omega) rfl (Nat.le_of_ble_eq_true rfl) (Nat.le_of_ble_eq_true rfl) (p2) rfl ?_
        refine ms_if_eq (tgt := 20) dX11_move_13 (by decide) (fun c13 => absurd c13 (by decide)) (fun c13 => ?_)
        refine ms_iconst (v := nI 1) dX11_move_16 (by decide) ?_
        refine ms_goto (tgt := 21) dX11_move_17 (by decide) ?_
        refine ms_istore dX11_move_21 (Nat.le_of_ble_eq_true rfl) ?_
        refine ms_aload_n dX11_move_23 rfl ?_
        refine ms_iload dX11_move_24 rfl ?_
        refine ms_if_ne (tgt := 33) dX11_move_26 (by decide) (fun c26 => ?_) (fun c26 => absurd c26 (by decide))
        refine ms_iload_n dX11_move_33 rfl ?_
        refine ms_iload_n dX11_move_34 rfl ?_
        refine n_icmp_eq (tgt := 49) dX11_move_35 (by decide) (by omega) (by omega) (fun c35 => absurd c35 (fun q => z2 q)) (fun c35 => ?_)
        refine ms_iload_n dX11_move_38 rfl ?_
        refine ms_iconst (v := nI 0) dX11_move_39 (by decide) ?_
        refine ms_sipush (v := nI 300) dX11_move_40 (by decide) ?_
        refine qRS3 dX11_move_43 kX11_117 (d := d - 1) (by show d - 1 + 1 ≤ d; omega) rfl rfl rfl (Nat.le_of_ble_eq_true rfl) (Nat.le_of_ble_eq_true rfl) (kr_in1 z1) rfl ?_
        refine ms_if_ne (tgt := 53) dX11_move_46 (by decide) (fun c46 => ?_) (fun c46 => absurd c46 (by decide))
        refine ms_iconst (v := nI 0) dX11_move_53 (by decide) ?_
        refine qRV1 dX11_move_54 kX11_138 (by show _ < 178; first | decide | exact lt_sc (by omega) | exact lt_dy (by omega)) (by show (sh0 _).1 = _; first | rfl | rw [sh_sc (by omega)] | rw [sh_dy (by omega)]) (d := d - 1) (by show d - 1 + 1 ≤ d; omega) rfl (Nat.le_of_ble_eq_true rfl) (Nat.le_of_ble_eq_true rfl) (hgw _ _) rfl ?_
        refine ms_if_ne (tgt := 62) dX11_move_57 (by decide) (fun c57 => ?_) (fun c57 => absurd c57 (by decide))
        refine ms_aload_n dX11_move_62 rfl ?_
        refine q_getr dX11_move_63 fX11_80 kd_11_31 (by first | decide | exact lt_sc (by omega) | exact lt_dy (by omega) | exact lt_rw (by omega) | exact lt_wa (by omega) | exact lt_le (by omega)) (by first | rfl | rw [sh_sc (by omega)] | rw [sh_dy (by omega)]) (by first | rfl | exact rf_wa (by omega) | exact rf_le (by omega) | exact rf_rw (by omega)) ?_
        refine ms_bipush (v := nI 6) dX11_move_66 (by decide) ?_
        refine ms_iload_n dX11_move_68 rfl ?_
        refine n_imul dX11_move_69 ?_
        refine ms_iload_n dX11_move_70 rfl ?_
        refine n_iadd dX11_move_71 ?_
        refine q_iald dX11_move_72 (by first | decide | exact lt_sc (by omega) | exact lt_dy (by omega) | exact lt_rw (by omega) | exact lt_wa (by omega) | exact lt_le (by omega)) (by first | rfl | exact sh_rw (by omega) | exact sh_wa (by omega) | exact sh_le (by omega)) (by omega) (by decide) hmv ?_
        refine ms_istore dX11_move_73 (Nat.le_of_ble_eq_true rfl) ?_
        refine ms_aload_n dX11_move_75 rfl ?_
        refine q_getr dX11_move_76 fX11_80 kd_11_31 (by first | decide | exact lt_sc (by omega) | exact lt_dy (by omega) | exact lt_rw (by omega) | exact lt_wa (by omega) | exact lt_le (by omega)) (by first | rfl | rw [sh_sc (by omega)] | rw [sh_dy (by omega)]) (by first | rfl | exact rf_wa (by omega) | exact rf_le (by omega) | exact rf_rw (by omega)) ?_
        refine ms_bipush (v := nI 6) dX11_move_79 (by decide) ?_
        refine ms_iload_n dX11_move_81 rfl ?_
        refine n_imul dX11_move_82 ?_
        refine ms_iload_n dX11_move_83 rfl ?_
        refine n_iadd dX11_move_84 ?_
        refine ms_iload_n dX11_move_85 rfl ?_
        refine q_iast dX11_move_86 (by first | decide | exact lt_sc (by omega) | exact lt_dy (by omega) | exact lt_rw (by omega) | exact lt_wa (by omega) | exact lt_le (by omega)) (by first | rfl | exact sh_rw (by omega) | exact sh_wa (by omega) | exact sh_le (by omega)) (by omega) (by decide) ?_
        refine ms_aload_n dX11_move_87 rfl ?_
        refine q_getr dX11_move_88 fX11_80 kd_11_31 (by first | decide | exact lt_sc (by omega) | exact lt_dy (by omega) | exact lt_rw (by omega) | exact lt_wa (by omega) | exact lt_le (by omega)) (by first | rfl | rw [sh_sc (by omega)] | rw [sh_dy (by omega)]) (by first | rfl | exact rf_wa (by omega) | exact rf_le (by omega) | exact rf_rw (by omega)) ?_
        refine ms_bipush (v := nI 6) dX11_move_91 (by decide) ?_
        refine ms_iload_n dX11_move_93 rfl ?_
        refine n_imul dX11_move_94 ?_
        refine ms_iload_n dX11_move_95 rfl ?_
        refine n_iadd dX11_move_96 ?_
        refine ms_iload_n dX11_move_97 rfl ?_
        refine q_iast dX11_move_98 (by first | decide | exact lt_sc (by omega) | exact lt_dy (by omega) | exact lt_rw (by omega) | exact lt_wa (by omega) | exact lt_le (by omega)) (by first | rfl | exact sh_rw (by omega) | exact sh_wa (by omega) | exact sh_le (by omega)) (by omega) (by decide) ?_
        refine ms_iload dX11_move_99 rfl ?_
        refine ms_iret dX11_move_101 rfl rfl ⟨?_, ?_⟩
        · rfl
        · rfl
      · have hz2 : ¬ (nI 0 ≤ z ∧ z ≤ nI 300) ∨ a = b := by
          by_cases z1 : nI 0 ≤ z ∧ z ≤ nI 300
          · exact Or.inr (Decidable.byContradiction (fun q => hz ⟨z1, q⟩))
          · exact Or.inl z1
        refine Okc_thr (k := 1) (E := xA) (b := some (.int (nI 0))) hI hC rfl (fun lg d hd => k_moveT3 (by omega) hL ha hb hz2) (fun lg d hd => ?_)
        have p1 := kr_pl1 (S := S) (J := I) (lg := lg) (d := d - 1) (by omega) (hC.lc.trans hL.1) hL2 ha
        have p2 := kr_pl1 (S := S) (J := I) (lg := lg) (d := d - 1) (by omega) (hC.lc.trans hL.1) hL2 hb
        by_cases z2 : a = b
        · refine ms_aload_n dX11_move_0 rfl ?_
          refine ms_iload_n dX11_move_1 rfl ?_
          refine qRV1 dX11_move_2 kX11_135 (by show _ < 178; first | decide | exact lt_sc (by omega) | exact lt_dy (by omega)) (by show (sh0 _).1 = _; first | rfl | rw [sh_sc (by omega)] | rw [sh_dy (by omega)]) (d := d - 1) (by show d - 1 + 1 ≤ d; omega) rfl (Nat.le_of_ble_eq_true rfl) (Nat.le_of_ble_eq_true rfl) (p1) rfl ?_
          refine ms_if_eq (tgt := 20) dX11_move_5 (by decide) (fun c5 => absurd c5 (by decide)) (fun c5 => ?_)
          refine ms_aload_n dX11_move_8 rfl ?_
          refine ms_iload_n dX11_move_9 rfl ?_
          refine qRV1 dX11_move_10 kX11_135 (by show _ < 178; first | decide | exact lt_sc (by omega) | exact lt_dy (by omega)) (by show (sh0 _).1 = _; first | rfl | rw [sh_sc (by omega)] | rw [sh_dy (by omega)]) (d := d - 1) (by show d - 1 + 1 ≤ d; omega) rfl (Nat.le_of_ble_eq_true rfl) (Nat.le_of_ble_eq_true rfl) (p2) rfl ?_
          refine ms_if_eq (tgt := 20) dX11_move_13 (by decide) (fun c13 => absurd c13 (by decide)) (fun c13 => ?_)
          refine ms_iconst (v := nI 1) dX11_move_16 (by decide) ?_
          refine ms_goto (tgt := 21) dX11_move_17 (by decide) ?_
          refine ms_istore dX11_move_21 (Nat.le_of_ble_eq_true rfl) ?_
          refine ms_aload_n dX11_move_23 rfl ?_
          refine ms_iload dX11_move_24 rfl ?_
          refine ms_if_ne (tgt := 33) dX11_move_26 (by decide) (fun c26 => ?_) (fun c26 => absurd c26 (by decide))
          refine ms_iload_n dX11_move_33 rfl ?_
          refine ms_iload_n dX11_move_34 rfl ?_
          refine n_icmp_eq (tgt := 49) dX11_move_35 (by decide) (by omega) (by omega) (fun c35 => ?_) (fun c35 => absurd c35 (fun q => q z2))
          refine ms_iconst (v := nI 2) dX11_move_49 (by decide) ?_
          refine ms_goto (tgt := 54) dX11_move_50 (by decide) ?_
          refine qRV1 dX11_move_54 kX11_138 (by show _ < 178; first | decide | exact lt_sc (by omega) | exact lt_dy (by omega)) (by show (sh0 _).1 = _; first | rfl | rw [sh_sc (by omega)] | rw [sh_dy (by omega)]) (d := d - 1) (by show d - 1 + 1 ≤ d; omega) rfl (Nat.le_of_ble_eq_true rfl) (Nat.le_of_ble_eq_true rfl) (kr_gwk 1 (by decide)) rfl ?_
          refine ms_if_ne (tgt := 62) dX11_move_57 (by decide) (fun c57 => absurd c57 (by decide)) (fun c57 => ?_)
          refine ms_iconst (v := nI 0) dX11_move_60 (by decide) ?_
          refine ms_iret dX11_move_61 rfl rfl ⟨?_, ?_⟩
          · rfl
          · rfl
        · refine ms_aload_n dX11_move_0 rfl ?_
          refine ms_iload_n dX11_move_1 rfl ?_
          refine qRV1 dX11_move_2 kX11_135 (by show _ < 178; first | decide | exact lt_sc (by omega) | exact lt_dy (by omega)) (by show (sh0 _).1 = _; first | rfl | rw [sh_sc (by omega)] | rw [sh_dy (by omega)]) (d := d - 1) (by show d - 1 + 1 ≤ d; omega) rfl (Nat.le_of_ble_eq_true rfl) (Nat.le_of_ble_eq_true rfl) (p1) rfl ?_
          refine ms_if_eq (tgt := 20) dX11_move_5 (by decide) (fun c5 => absurd c5 (by decide)) (fun c5 => ?_)
          refine ms_aload_n dX11_move_8 rfl ?_
          refine ms_iload_n dX11_move_9 rfl ?_
          refine qRV1 dX11_move_10 kX11_135 (by show _ < 178; first | decide | exact lt_sc (by omega) | exact lt_dy (by omega)) (by show (sh0 _).1 = _; first | rfl | rw [sh_sc (by omega)] | rw [sh_dy (by omega)]) (d := d - 1) (by show d - 1 + 1 ≤ d; omega) rfl (Nat.le_of_ble_eq_true rfl) (Nat.le_of_ble_eq_true rfl) (p2) rfl ?_
          refine ms_if_eq (tgt := 20) dX11_move_13 (by decide) (fun c13 => absurd c13 (by decide)) (fun c13 => ?_)
          refine ms_iconst (v := nI 1) dX11_move_16 (by decide) ?_
          refine ms_goto (tgt := 21) dX11_move_17 (by decide) ?_
          refine ms_istore dX11_move_21 (Nat.le_of_ble_eq_true rfl) ?_
          refine ms_aload_n dX11_move_23 rfl ?_
          refine ms_iload dX11_move_24 rfl ?_
          refine ms_if_ne (tgt := 33) dX11_move_26 (by decide) (fun c26 => ?_) (fun c26 => absurd c26 (by decide))
          refine ms_iload_n dX11_move_33 rfl ?_
          refine ms_iload_n dX11_move_34 rfl ?_
          refine n_icmp_eq (tgt := 49) dX11_move_35 (by decide) (by omega) (by omega) (fun c35 => absurd c35 (fun q => z2 q)) (fun c35 => ?_)
          refine ms_iload_n dX11_move_38 rfl ?_
          refine ms_iconst (v := nI 0) dX11_move_39 (by decide) ?_
          refine ms_sipush (v := nI 300) dX11_move_40 (by decide) ?_
          refine qRS3 dX11_move_43 kX11_117 (d := d - 1) (by show d - 1 + 1 ≤ d; omega) rfl rfl rfl (Nat.le_of_ble_eq_true rfl) (Nat.le_of_ble_eq_true rfl) (kr_in0 (hz2.resolve_right z2)) rfl ?_
          refine ms_if_ne (tgt := 53) dX11_move_46 (by decide) (fun c46 => absurd c46 (by decide)) (fun c46 => ?_)
          refine ms_iconst (v := nI 2) dX11_move_49 (by decide) ?_
          refine ms_goto (tgt := 54) dX11_move_50 (by decide) ?_
          refine qRV1 dX11_move_54 kX11_138 (by show _ < 178; first | decide | exact lt_sc (by omega) | exact lt_dy (by omega)) (by show (sh0 _).1 = _; first | rfl | rw [sh_sc (by omega)] | rw [sh_dy (by omega)]) (d := d - 1) (by show d - 1 + 1 ≤ d; omega) rfl (Nat.le_of_ble_eq_true rfl) (Nat.le_of_ble_eq_true rfl) (kr_gwk 1 (by decide)) rfl ?_
          refine ms_if_ne (tgt := 62) dX11_move_57 (by decide) (fun c57 => absurd c57 (by decide)) (fun c57 => ?_)
          refine ms_iconst (v := nI 0) dX11_move_60 (by decide) ?_
          refine ms_iret dX11_move_61 rfl rfl ⟨?_, ?_⟩
          · rfl
          · rfl
    · refine Okc_thr (k := 0) (E := xI) (b := some (.int (nI 0))) hI hC rfl (fun lg d hd => k_moveT2 (by omega) hL ha hy) (fun lg d hd => ?_)
      have p1 := kr_pl1 (S := S) (J := I) (lg := lg) (d := d - 1) (by omega) (hC.lc.trans hL.1) hL2 ha
      have p2 := kr_pl0 (S := S) (J := I) (lg := lg) (d := d - 1) (by omega) (hC.lc.trans hL.1) hL2 hy
      refine ms_aload_n dX11_move_0 rfl ?_
      refine ms_iload_n dX11_move_1 rfl ?_
      refine qRV1 dX11_move_2 kX11_135 (by show _ < 178; first | decide | exact lt_sc (by omega) | exact lt_dy (by omega)) (by show (sh0 _).1 = _; first | rfl | rw [sh_sc (by omega)] | rw [sh_dy (by omega)]) (d := d - 1) (by show d - 1 + 1 ≤ d; omega) rfl (Nat.le_of_ble_eq_true rfl) (Nat.le_of_ble_eq_true rfl) (p1) rfl ?_
      refine ms_if_eq (tgt := 20) dX11_move_5 (by decide) (fun c5 => absurd c5 (by decide)) (fun c5 => ?_)
      refine ms_aload_n dX11_move_8 rfl ?_
      refine ms_iload_n dX11_move_9 rfl ?_
      refine qRV1 dX11_move_10 kX11_135 (by show _ < 178; first | decide | exact lt_sc (by omega) | exact lt_dy (by omega)) (by show (sh0 _).1 = _; first | rfl | rw [sh_sc (by omega)] | rw [sh_dy (by omega)]) (d := d - 1) (by show d - 1 + 1 ≤ d; omega) rfl (Nat.le_of_ble_eq_true rfl) (Nat.le_of_ble_eq_true rfl) (p2) rfl ?_
      refine ms_if_eq (tgt := 20) dX11_move_13 (by decide) (fun c13 => ?_) (fun c13 => absurd c13 (by decide))
      refine ms_iconst (v := nI 0) dX11_move_20 (by decide) ?_
      refine ms_istore dX11_move_21 (Nat.le_of_ble_eq_true rfl) ?_
      refine ms_aload_n dX11_move_23 rfl ?_
      refine ms_iload dX11_move_24 rfl ?_
      refine ms_if_ne (tgt := 33) dX11_move_26 (by decide) (fun c26 => absurd c26 (by decide)) (fun c26 => ?_)
      refine ms_iconst (v := nI 1) dX11_move_29 (by decide) ?_
      refine ms_goto (tgt := 54) dX11_move_30 (by decide) ?_
      refine qRV1 dX11_move_54 kX11_138 (by show _ < 178; first | decide | exact lt_sc (by omega) | exact lt_dy (by omega)) (by show (sh0 _).1 = _; first | rfl | rw [sh_sc (by omega)] | rw [sh_dy (by omega)]) (d := d - 1) (by show d - 1 + 1 ≤ d; omega) rfl (Nat.le_of_ble_eq_true rfl) (Nat.le_of_ble_eq_true rfl) (kr_gwk 0 (by decide)) rfl ?_
      refine ms_if_ne (tgt := 62) dX11_move_57 (by decide) (fun c57 => absurd c57 (by decide)) (fun c57 => ?_)
      refine ms_iconst (v := nI 0) dX11_move_60 (by decide) ?_
      refine ms_iret dX11_move_61 rfl rfl ⟨?_, ?_⟩
      · rfl
      · rfl
  · refine Okc_thr (k := 0) (E := xI) (b := some (.int (nI 0))) hI hC rfl (fun lg d hd => k_moveT1 (by omega) hL hx) (fun lg d hd => ?_)
    have p1 := kr_pl0 (S := S) (J := I) (lg := lg) (d := d - 1) (by omega) (hC.lc.trans hL.1) hL2 hx
    refine ms_aload_n dX11_move_0 rfl ?_
    refine ms_iload_n dX11_move_1 rfl ?_
    refine qRV1 dX11_move_2 kX11_135 (by show _ < 178; first | decide | exact lt_sc (by omega) | exact lt_dy (by omega)) (by show (sh0 _).1 = _; first | rfl | rw [sh_sc (by omega)] | rw [sh_dy (by omega)]) (d := d - 1) (by show d - 1 + 1 ≤ d; omega) rfl (Nat.le_of_ble_eq_true rfl) (Nat.le_of_ble_eq_true rfl) (p1) rfl ?_
    refine ms_if_eq (tgt := 20) dX11_move_5 (by decide) (fun c5 => ?_) (fun c5 => absurd c5 (by decide))
    refine ms_iconst (v := nI 0) dX11_move_20 (by decide) ?_
    refine ms_istore dX11_move_21 (Nat.le_of_ble_eq_true rfl) ?_
    refine ms_aload_n dX11_move_23 rfl ?_
    refine ms_iload dX11_move_24 rfl ?_
    refine ms_if_ne (tgt := 33) dX11_move_26 (by decide) (fun c26 => absurd c26 (by decide)) (fun c26 => ?_)
    refine ms_iconst (v := nI 1) dX11_move_29 (by decide) ?_
    refine ms_goto (tgt := 54) dX11_move_30 (by decide) ?_
    refine qRV1 dX11_move_54 kX11_138 (by show _ < 178; first | decide | exact lt_sc (by omega) | exact lt_dy (by omega)) (by show (sh0 _).1 = _; first | rfl | rw [sh_sc (by omega)] | rw [sh_dy (by omega)]) (d := d - 1) (by show d - 1 + 1 ≤ d; omega) rfl (Nat.le_of_ble_eq_true rfl) (Nat.le_of_ble_eq_true rfl) (kr_gwk 0 (by decide)) rfl ?_
    refine ms_if_ne (tgt := 62) dX11_move_57 (by decide) (fun c57 => absurd c57 (by decide)) (fun c57 => ?_)
    refine ms_iconst (v := nI 0) dX11_move_60 (by decide) ?_
    refine ms_iret dX11_move_61 rfl rfl ⟨?_, ?_⟩
    · rfl
    · rfl
theorem Cr_ch {I J : m_I} {n : Nat} {c : Bool} (hm : vm I ≤ 20) (h : Cr I J) (hn : n < 8) : Cr (m_up2 I 65 3 (wb (I 65 3) n c)) (m_up2 J 163 n (bi c)) := by
  have e1 : vm (m_up2 I 65 3 (wb (I 65 3) n c)) = vm I := congrArg vN (m_up2_ne (by omega))
  have e2 : vlc (m_up2 I 65 3 (wb (I 65 3) n c)) = vlc I := congrArg vN (m_up2_ne (by omega))
  refine ⟨fun a b hl => ?_, fun p hp => ?_, fun p t hp ht => ?_, fun p t hp ht => ?_⟩
  · rw [e1] at hl
    have hok := (mp_all hm hl).1
    rw [m_up2_ne (by unfold lvR at hl; omega), m_up2_ne (fun z => hok.2.2.2.2.1 z)]
    exact h.1 a b hl
  · rw [m_up2_eq, b_wb _ c (by omega) (by omega)]
    by_cases z : p = n
    · rw [if_pos z, z, m_up2_eq]
    · rw [if_neg z, m_up2_ne (by omega)]
      exact h.ch hp
  · rw [m_up2_ne (by omega), m_up2_ne (by unfold dyI; omega)]
    exact h.il hp ht
  · rw [e2] at hp
    rw [m_up2_ne (by omega), m_up2_ne (by unfold dyI; omega)]
    exact h.al hp ht
theorem Cr_il {I J : m_I} {p t : Nat} {c : Bool} (hm : vm I ≤ 20) (h : Cr I J) (hp : p < 8) (ht : t < 30) : Cr (m_up2 I (dyI t) 3 (wb (I (dyI t) 3) p c)) (m_up2 J 164 p (wb (J 164 p) t c)) := by
  have e1 : vm (m_up2 I (dyI t) 3 (wb (I (dyI t) 3) p c)) = vm I := congrArg vN (m_up2_ne (by unfold dyI; omega))
  have e2 : vlc (m_up2 I (dyI t) 3 (wb (I (dyI t) 3) p c)) = vlc I := congrArg vN (m_up2_ne (by unfold dyI; omega))
  refine ⟨fun a b hl => ?_, fun q hq => ?_, fun q u hq hu => ?_, fun q u hq hu => ?_⟩
  · rw [e1] at hl
    have hok := (mp_all hm hl).1
    rw [m_up2_ne (by unfold lvR at hl; omega), m_up2_ne (fun z => hok.2.2.2.2.2 (by rw [z.1, z.2]; unfold dyI; omega))]
    exact h.1 a b hl
  · rw [m_up2_ne (by omega), m_up2_ne (by unfold dyI; omega)]
    exact h.ch hq
  · by_cases z : q = p
    · subst z
      rw [m_up2_eq, b_wb _ c (by omega) (by omega)]
      by_cases y : u = t
      · subst y
        rw [if_pos rfl, m_up2_eq, b_wb _ c (by omega) (by omega), if_pos rfl]
      · rw [if_neg y, m_up2_ne (by unfold dyI; omega)]
        exact h.il hq hu
    · rw [m_up2_ne (by omega)]
      by_cases y : u = t
      · subst y
        rw [m_up2_eq, b_wb _ c (by omega) (by omega), if_neg z]
        exact h.il hq hu
      · rw [m_up2_ne (by unfold dyI; omega)]
        exact h.il hq hu
  · rw [e2] at hq
    rw [m_up2_ne (by omega), m_up2_ne (by omega)]
    exact h.al hq hu
theorem Cr_al {I J : m_I} {p t : Nat} {c : Bool} (hm : vm I ≤ 20) (hl6 : vlc I ≤ 6) (h : Cr I J) (hp : p < vlc I) (ht : t < 30) : Cr (m_up2 I (dyI t) 4 (wb (I (dyI t) 4) p (!c))) (m_up2 J 166 p (wb (J 166 p) t c)) := by
  have e1 : vm (m_up2 I (dyI t) 4 (wb (I (dyI t) 4) p (!c))) = vm I := congrArg vN (m_up2_ne (by unfold dyI; omega))
  have e2 : vlc (m_up2 I (dyI t) 4 (wb (I (dyI t) 4) p (!c))) = vlc I := congrArg vN (m_up2_ne (by unfold dyI; omega))
  refine ⟨fun a b hl => ?_, fun q hq => ?_, fun q u hq hu => ?_, fun q u hq hu => ?_⟩
  · rw [e1] at hl
    have hok := (mp_all hm hl).1
    rw [m_up2_ne (by unfold lvR at hl; omega), m_up2_ne (fun z => hok.2.2.2.2.2 (by rw [z.1, z.2]; unfold dyI; omega))]
    exact h.1 a b hl
  · rw [m_up2_ne (by omega), m_up2_ne (by unfold dyI; omega)]
    exact h.ch hq
  · rw [m_up2_ne (by omega), m_up2_ne (by omega)]
    exact h.il hq hu
  · rw [e2] at hq
    by_cases z : q = p
    · subst z
      rw [m_up2_eq, b_wb _ c (by omega) (by omega)]
      by_cases y : u = t
      · subst y
        rw [if_pos rfl, m_up2_eq, b_wb _ (!c) (by omega) (by omega), if_pos rfl, Bool.not_not]
      · rw [if_neg y, m_up2_ne (by unfold dyI; omega)]
        exact h.al hq hu
    · rw [m_up2_ne (by omega)]
      by_cases y : u = t
      · subst y
        rw [m_up2_eq, b_wb _ (!c) (by omega) (by omega), if_neg z]
        exact h.al hq hu
      · rw [m_up2_ne (by unfold dyI; omega)]
        exact h.al hq hu
theorem o_ill {S : m_S} {c : Nat} {I : m_I} (x y : Int32) (q : Bool) (hI : Iv c I) (hC : Cr I I) : Okc S c I M_X10_ill M_X11_ill [.ref 0, .int x, .int y, .int (bi q)] [.ref 143, .int x, .int y, .int (bi q)] [xI] := by
  have hm := hI.1.1
  have hP := Iv_Pn hI
  have hP2 := hP.2
  rcases ix_or x (n := vpn I) (by omega) with ⟨p, hp, rfl⟩ | hx
  · rcases ix_or y (n := 30) (by omega) with ⟨t, ht, rfl⟩ | hy
    · refine Okc_go _ hm hC (fun lg d hd => k_ill q (by omega) hP hp ht) (fun a d h => m_up2_ne (by unfold dyI; omega)) (Iv_free hI (by omega) (by unfold usd dyI; omega)) (fun J J' hJ hC' hgw hne hz => ?_)
      have c1 := Cr_il (p := p) (t := t) (c := q) hm hC' (by omega) ht
      refine ⟨_, fun lg d hd => ?_, c1, fQ_up (by decide), m_up2_ne (by omega)⟩
      have p1 := kr_pe1 (S := S) (J := J) (lg := lg) (d := d - 1) (by omega) (hJ.pn.trans hP.1) hP2 hp
      have d1 := kr_dy1 (S := S) (h := hh J lg) (d := d - 1) (by omega) ht
      have eN : fb_ct (fun i => bt ((m_up2 I (dyI t) 3 (wb (I (dyI t) 3) p q)) (dyI i) 3) p) 30 = pc (wb (J' 164 p) t q) 30 := fb_ct_cong (fun i hi => by
        have e := c1.il (p := p) (t := i) (by omega) hi
        rw [m_up2_eq] at e
        exact e.symm)
      rw [eN]
      cases q
      · refine ms_aload_n dX11_ill_0 rfl ?_
        refine ms_aload_n dX11_ill_1 rfl ?_
        refine ms_iload_n dX11_ill_2 rfl ?_
        refine qRV1 dX11_ill_3 kX11_165 (by show _ < 178; first | decide | exact lt_sc (by omega) | exact lt_dy (by omega)) (by show (sh0 _).1 = _; first | rfl | rw [sh_sc (by omega)] | rw [sh_dy (by omega)]) (d := d - 1) (by show d - 1 + 1 ≤ d; omega) rfl (Nat.le_of_ble_eq_true rfl) (Nat.le_of_ble_eq_true rfl) (p1) rfl ?_
        refine ms_if_eq (tgt := 20) dX11_ill_6 (by decide) (fun c6 => absurd c6 (by decide)) (fun c6 => ?_)
        refine ms_iload_n dX11_ill_9 rfl ?_
        refine qRS1 dX11_ill_10 kX11_168 (d := d - 1) (by show d - 1 + 1 ≤ d; omega) rfl (Nat.le_of_ble_eq_true rfl) (Nat.le_of_ble_eq_true rfl) (d1) rfl ?_
        refine ms_if_eq (tgt := 20) dX11_ill_13 (by decide) (fun c13 => absurd c13 (by decide)) (fun c13 => ?_)
        refine ms_iconst (v := nI 0) dX11_ill_16 (by decide) ?_
        refine ms_goto (tgt := 21) dX11_ill_17 (by decide) ?_
        refine qRV1 dX11_ill_21 kX11_138 (by show _ < 178; first | decide | exact lt_sc (by omega) | exact lt_dy (by omega)) (by show (sh0 _).1 = _; first | rfl | rw [sh_sc (by omega)] | rw [sh_dy (by omega)]) (d := d - 1) (by show d - 1 + 1 ≤ d; omega) rfl (Nat.le_of_ble_eq_true rfl) (Nat.le_of_ble_eq_true rfl) (hgw _ _) rfl ?_
        refine ms_if_ne (tgt := 29) dX11_ill_24 (by decide) (fun c24 => ?_) (fun c24 => absurd c24 (by decide))
        refine ms_aload_n dX11_ill_29 rfl ?_
        refine q_getr dX11_ill_30 fX11_71 kd_11_27 (by first | decide | exact lt_sc (by omega) | exact lt_dy (by omega) | exact lt_rw (by omega) | exact lt_wa (by omega) | exact lt_le (by omega)) (by first | rfl | rw [sh_sc (by omega)] | rw [sh_dy (by omega)]) (by first | rfl | exact rf_wa (by omega) | exact rf_le (by omega) | exact rf_rw (by omega)) ?_
        refine ms_iload_n dX11_ill_33 rfl ?_
        refine ms_iload_n dX11_ill_34 rfl ?_
        refine ms_if_eq (tgt := 51) dX11_ill_35 (by decide) (fun c35 => ?_) (fun c35 => absurd c35 (by decide))
        refine ms_aload_n dX11_ill_51 rfl ?_
        refine q_getr dX11_ill_52 fX11_71 kd_11_27 (by first | decide | exact lt_sc (by omega) | exact lt_dy (by omega) | exact lt_rw (by omega) | exact lt_wa (by omega) | exact lt_le (by omega)) (by first | rfl | rw [sh_sc (by omega)] | rw [sh_dy (by omega)]) (by first | rfl | exact rf_wa (by omega) | exact rf_le (by omega) | exact rf_rw (by omega)) ?_
        refine ms_iload_n dX11_ill_55 rfl ?_
        refine q_iald dX11_ill_56 (by first | decide | exact lt_sc (by omega) | exact lt_dy (by omega) | exact lt_rw (by omega) | exact lt_wa (by omega) | exact lt_le (by omega)) (by first | rfl | exact sh_rw (by omega) | exact sh_wa (by omega) | exact sh_le (by omega)) (by omega) (by decide) (by first | assumption | ((repeat ((with_reducible apply m_up2_tr); · first | omega | (intro z; (try unfold scI at z); (try unfold dyI at z); (try unfold rwI at z); (try unfold waI at z); (try unfold leI at z); omega))); first | assumption | exact m_up2_eq | rfl)) ?_
        refine ms_iconst (v := nI 1) dX11_ill_57 (by decide) ?_
        refine ms_iload_n dX11_ill_58 rfl ?_
        refine ms_ishl dX11_ill_59 ?_
        refine ms_iconst (v := -1) dX11_ill_60 (by decide) ?_
        refine ms_ixor dX11_ill_61 ?_
        refine ms_iand dX11_ill_62 ?_
        refine q_iast dX11_ill_63 (by first | decide | exact lt_sc (by omega) | exact lt_dy (by omega) | exact lt_rw (by omega) | exact lt_wa (by omega) | exact lt_le (by omega)) (by first | rfl | exact sh_rw (by omega) | exact sh_wa (by omega) | exact sh_le (by omega)) (by omega) (by decide) ?_
        refine ms_aload_n dX11_ill_64 rfl ?_
        refine q_getr dX11_ill_65 fX11_71 kd_11_27 (by first | decide | exact lt_sc (by omega) | exact lt_dy (by omega) | exact lt_rw (by omega) | exact lt_wa (by omega) | exact lt_le (by omega)) (by first | rfl | rw [sh_sc (by omega)] | rw [sh_dy (by omega)]) (by first | rfl | exact rf_wa (by omega) | exact rf_le (by omega) | exact rf_rw (by omega)) ?_
        refine ms_iload_n dX11_ill_68 rfl ?_
        refine q_iald dX11_ill_69 (by first | decide | exact lt_sc (by omega) | exact lt_dy (by omega) | exact lt_rw (by omega) | exact lt_wa (by omega) | exact lt_le (by omega)) (by first | rfl | exact sh_rw (by omega) | exact sh_wa (by omega) | exact sh_le (by omega)) (by omega) (by decide) (by first | assumption | ((repeat ((with_reducible apply m_up2_tr); · first | omega | (intro z; (try unfold scI at z); (try unfold dyI at z); (try unfold rwI at z); (try unfold waI at z); (try unfold leI at z); omega))); first | assumption | exact m_up2_eq | rfl)) ?_
        refine qRS1 dX11_ill_70 kX11_151 (d := d - 1) (by show d - 1 + 1 ≤ d; omega) rfl (Nat.le_of_ble_eq_true rfl) (Nat.le_of_ble_eq_true rfl) (kr_size) rfl ?_
        refine ms_iret dX11_ill_73 rfl rfl ⟨?_, ?_⟩
        · rfl
        · rfl
      · refine ms_aload_n dX11_ill_0 rfl ?_
        refine ms_aload_n dX11_ill_1 rfl ?_
        refine ms_iload_n dX11_ill_2 rfl ?_
        refine qRV1 dX11_ill_3 kX11_165 (by show _ < 178; first | decide | exact lt_sc (by omega) | exact lt_dy (by omega)) (by show (sh0 _).1 = _; first | rfl | rw [sh_sc (by omega)] | rw [sh_dy (by omega)]) (d := d - 1) (by show d - 1 + 1 ≤ d; omega) rfl (Nat.le_of_ble_eq_true rfl) (Nat.le_of_ble_eq_true rfl) (p1) rfl ?_
        refine ms_if_eq (tgt := 20) dX11_ill_6 (by decide) (fun c6 => absurd c6 (by decide)) (fun c6 => ?_)
        refine ms_iload_n dX11_ill_9 rfl ?_
        refine qRS1 dX11_ill_10 kX11_168 (d := d - 1) (by show d - 1 + 1 ≤ d; omega) rfl (Nat.le_of_ble_eq_true rfl) (Nat.le_of_ble_eq_true rfl) (d1) rfl ?_
        refine ms_if_eq (tgt := 20) dX11_ill_13 (by decide) (fun c13 => absurd c13 (by decide)) (fun c13 => ?_)
        refine ms_iconst (v := nI 0) dX11_ill_16 (by decide) ?_
        refine ms_goto (tgt := 21) dX11_ill_17 (by decide) ?_
        refine qRV1 dX11_ill_21 kX11_138 (by show _ < 178; first | decide | exact lt_sc (by omega) | exact lt_dy (by omega)) (by show (sh0 _).1 = _; first | rfl | rw [sh_sc (by omega)] | rw [sh_dy (by omega)]) (d := d - 1) (by show d - 1 + 1 ≤ d; omega) rfl (Nat.le_of_ble_eq_true rfl) (Nat.le_of_ble_eq_true rfl) (hgw _ _) rfl ?_
        refine ms_if_ne (tgt := 29) dX11_ill_24 (by decide) (fun c24 => ?_) (fun c24 => absurd c24 (by decide))
        refine ms_aload_n dX11_ill_29 rfl ?_
        refine q_getr dX11_ill_30 fX11_71 kd_11_27 (by first | decide | exact lt_sc (by omega) | exact lt_dy (by omega) | exact lt_rw (by omega) | exact lt_wa (by omega) | exact lt_le (by omega)) (by first | rfl | rw [sh_sc (by omega)] | rw [sh_dy (by omega)]) (by first | rfl | exact rf_wa (by omega) | exact rf_le (by omega) | exact rf_rw (by omega)) ?_
        refine ms_iload_n dX11_ill_33 rfl ?_
        refine ms_iload_n dX11_ill_34 rfl ?_
        refine ms_if_eq (tgt := 51) dX11_ill_35 (by decide) (fun c35 => absurd c35 (by decide)) (fun c35 => ?_)
        refine ms_aload_n dX11_ill_38 rfl ?_
        refine q_getr dX11_ill_39 fX11_71 kd_11_27 (by first | decide | exact lt_sc (by omega) | exact lt_dy (by omega) | exact lt_rw (by omega) | exact lt_wa (by omega) | exact lt_le (by omega)) (by first | rfl | rw [sh_sc (by omega)] | rw [sh_dy (by omega)]) (by first | rfl | exact rf_wa (by omega) | exact rf_le (by omega) | exact rf_rw (by omega)) ?_
        refine ms_iload_n dX11_ill_42 rfl ?_
        refine q_iald dX11_ill_43 (by first | decide | exact lt_sc (by omega) | exact lt_dy (by omega) | exact lt_rw (by omega) | exact lt_wa (by omega) | exact lt_le (by omega)) (by first | rfl | exact sh_rw (by omega) | exact sh_wa (by omega) | exact sh_le (by omega)) (by omega) (by decide) (by first | assumption | ((repeat ((with_reducible apply m_up2_tr); · first | omega | (intro z; (try unfold scI at z); (try unfold dyI at z); (try unfold rwI at z); (try unfold waI at z); (try unfold leI at z); omega))); first | assumption | exact m_up2_eq | rfl)) ?_
        refine ms_iconst (v := nI 1) dX11_ill_44 (by decide) ?_
        refine ms_iload_n dX11_ill_45 rfl ?_
        refine ms_ishl dX11_ill_46 ?_
        refine ms_ior dX11_ill_47 ?_
        refine ms_goto (tgt := 63) dX11_ill_48 (by decide) ?_
        refine q_iast dX11_ill_63 (by first | decide | exact lt_sc (by omega) | exact lt_dy (by omega) | exact lt_rw (by omega) | exact lt_wa (by omega) | exact lt_le (by omega)) (by first | rfl | exact sh_rw (by omega) | exact sh_wa (by omega) | exact sh_le (by omega)) (by omega) (by decide) ?_
        refine ms_aload_n dX11_ill_64 rfl ?_
        refine q_getr dX11_ill_65 fX11_71 kd_11_27 (by first | decide | exact lt_sc (by omega) | exact lt_dy (by omega) | exact lt_rw (by omega) | exact lt_wa (by omega) | exact lt_le (by omega)) (by first | rfl | rw [sh_sc (by omega)] | rw [sh_dy (by omega)]) (by first | rfl | exact rf_wa (by omega) | exact rf_le (by omega) | exact rf_rw (by omega)) ?_
        refine ms_iload_n dX11_ill_68 rfl ?_
        refine q_iald dX11_ill_69 (by first | decide | exact lt_sc (by omega) | exact lt_dy (by omega) | exact lt_rw (by omega) | exact lt_wa (by omega) | exact lt_le (by omega)) (by first | rfl | exact sh_rw (by omega) | exact sh_wa (by omega) | exact sh_le (by omega)) (by omega) (by decide) (by first | assumption | ((repeat ((with_reducible apply m_up2_tr); · first | omega | (intro z; (try unfold scI at z); (try unfold dyI at z); (try unfold rwI at z); (try unfold waI at z); (try unfold leI at z); omega))); first | assumption | exact m_up2_eq | rfl)) ?_
        refine qRS1 dX11_ill_70 kX11_151 (d := d - 1) (by show d - 1 + 1 ≤ d; omega) rfl (Nat.le_of_ble_eq_true rfl) (Nat.le_of_ble_eq_true rfl) (kr_size) rfl ?_
        refine ms_iret dX11_ill_73 rfl rfl ⟨?_, ?_⟩
        · rfl
        · rfl
    · refine Okc_thr (k := 0) (E := xI) (b := some (.int (nI 0))) hI hC rfl (fun lg d hd => k_illT2 (by omega) hP hp hy) (fun lg d hd => ?_)
      have p1 := kr_pe1 (S := S) (J := I) (lg := lg) (d := d - 1) (by omega) (hC.pn.trans hP.1) hP2 hp
      have d1 := kr_dy0 (S := S) (h := hh I lg) (d := d - 1) (by omega) hy
      refine ms_aload_n dX11_ill_0 rfl ?_
      refine ms_aload_n dX11_ill_1 rfl ?_
      refine ms_iload_n dX11_ill_2 rfl ?_
      refine qRV1 dX11_ill_3 kX11_165 (by show _ < 178; first | decide | exact lt_sc (by omega) | exact lt_dy (by omega)) (by show (sh0 _).1 = _; first | rfl | rw [sh_sc (by omega)] | rw [sh_dy (by omega)]) (d := d - 1) (by show d - 1 + 1 ≤ d; omega) rfl (Nat.le_of_ble_eq_true rfl) (Nat.le_of_ble_eq_true rfl) (p1) rfl ?_
      refine ms_if_eq (tgt := 20) dX11_ill_6 (by decide) (fun c6 => absurd c6 (by decide)) (fun c6 => ?_)
      refine ms_iload_n dX11_ill_9 rfl ?_
      refine qRS1 dX11_ill_10 kX11_168 (d := d - 1) (by show d - 1 + 1 ≤ d; omega) rfl (Nat.le_of_ble_eq_true rfl) (Nat.le_of_ble_eq_true rfl) (d1) rfl ?_
      refine ms_if_eq (tgt := 20) dX11_ill_13 (by decide) (fun c13 => ?_) (fun c13 => absurd c13 (by decide))
      refine ms_iconst (v := nI 1) dX11_ill_20 (by decide) ?_
      refine qRV1 dX11_ill_21 kX11_138 (by show _ < 178; first | decide | exact lt_sc (by omega) | exact lt_dy (by omega)) (by show (sh0 _).1 = _; first | rfl | rw [sh_sc (by omega)] | rw [sh_dy (by omega)]) (d := d - 1) (by show d - 1 + 1 ≤ d; omega) rfl (Nat.le_of_ble_eq_true rfl) (Nat.le_of_ble_eq_true rfl) (kr_gwk 0 (by decide)) rfl ?_
      refine ms_if_ne (tgt := 29) dX11_ill_24 (by decide) (fun c24 => absurd c24 (by decide)) (fun c24 => ?_)
      refine ms_iconst (v := nI 0) dX11_ill_27 (by decide) ?_
      refine ms_iret dX11_ill_28 rfl rfl ⟨?_, ?_⟩
      · rfl
      · rfl
  · refine Okc_thr (k := 0) (E := xI) (b := some (.int (nI 0))) hI hC rfl (fun lg d hd => k_illT1 (by omega) hP hx) (fun lg d hd => ?_)
    have p1 := kr_pe0 (S := S) (J := I) (lg := lg) (d := d - 1) (by omega) (hC.pn.trans hP.1) hP2 hx
    refine ms_aload_n dX11_ill_0 rfl ?_
    refine ms_aload_n dX11_ill_1 rfl ?_
    refine ms_iload_n dX11_ill_2 rfl ?_
    refine qRV1 dX11_ill_3 kX11_165 (by show _ < 178; first | decide | exact lt_sc (by omega) | exact lt_dy (by omega)) (by show (sh0 _).1 = _; first | rfl | rw [sh_sc (by omega)] | rw [sh_dy (by omega)]) (d := d - 1) (by show d - 1 + 1 ≤ d; omega) rfl (Nat.le_of_ble_eq_true rfl) (Nat.le_of_ble_eq_true rfl) (p1) rfl ?_
    refine ms_if_eq (tgt := 20) dX11_ill_6 (by decide) (fun c6 => ?_) (fun c6 => absurd c6 (by decide))
    refine ms_iconst (v := nI 1) dX11_ill_20 (by decide) ?_
    refine qRV1 dX11_ill_21 kX11_138 (by show _ < 178; first | decide | exact lt_sc (by omega) | exact lt_dy (by omega)) (by show (sh0 _).1 = _; first | rfl | rw [sh_sc (by omega)] | rw [sh_dy (by omega)]) (d := d - 1) (by show d - 1 + 1 ≤ d; omega) rfl (Nat.le_of_ble_eq_true rfl) (Nat.le_of_ble_eq_true rfl) (kr_gwk 0 (by decide)) rfl ?_
    refine ms_if_ne (tgt := 29) dX11_ill_24 (by decide) (fun c24 => absurd c24 (by decide)) (fun c24 => ?_)
    refine ms_iconst (v := nI 0) dX11_ill_27 (by decide) ?_
    refine ms_iret dX11_ill_28 rfl rfl ⟨?_, ?_⟩
    · rfl
    · rfl
theorem o_permit {S : m_S} {c : Nat} {I : m_I} (x y : Int32) (q : Bool) (hI : Iv c I) (hC : Cr I I) : Okc S c I M_X10_permit M_X11_permit [.ref 0, .int x, .int y, .int (bi q)] [.ref 143, .int x, .int y, .int (bi q)] [xI] := by
  have hm := hI.1.1
  have hL := Iv_Lc hI
  have hL2 := hL.2
  rcases ix_or x (n := vlc I) (by omega) with ⟨p, hp, rfl⟩ | hx
  · rcases ix_or y (n := 30) (by omega) with ⟨t, ht, rfl⟩ | hy
    · have hI1 : Iv (c + 1) (m_up2 I (dyI t) 4 (wb (I (dyI t) 4) p (!q))) := by
        obtain ⟨h1, h2, h3, h4, h5, h6, h7, h8, h9, h10, h11, h12⟩ := hI
        have hf : ∀ a d, ¬ (a = dyI t ∧ d = 4) → m_up2 I (dyI t) 4 (wb (I (dyI t) 4) p (!q)) a d = I a d := fun a d h => m_up2_ne h
        refine ⟨Vw_cong h1 (hf _ _ (by (try unfold scI); (try unfold dyI); (try unfold rwI); (try unfold waI); (try unfold leI); omega)) (fun t ht => ⟨hf (dyI t) 6 (by (try unfold scI); (try unfold dyI); (try unfold rwI); (try unfold waI); (try unfold leI); omega), fun j => hf (rwI t) j (by (try unfold scI); (try unfold dyI); (try unfold rwI); (try unfold waI); (try unfold leI); omega)⟩) (fun u hu => ⟨hf (scI u) 0 (by (try unfold scI); (try unfold dyI); (try unfold rwI); (try unfold waI); (try unfold leI); omega), hf (scI u) 15 (by (try unfold scI); (try unfold dyI); (try unfold rwI); (try unfold waI); (try unfold leI); omega)⟩), i2_c h2 (hf _ _ (by (try unfold scI); (try unfold dyI); (try unfold rwI); (try unfold waI); (try unfold leI); omega)) (hf _ _ (by (try unfold scI); (try unfold dyI); (try unfold rwI); (try unfold waI); (try unfold leI); omega)) (hf _ _ (by (try unfold scI); (try unfold dyI); (try unfold rwI); (try unfold waI); (try unfold leI); omega)), i3_c h3 (hf _ _ (by (try unfold scI); (try unfold dyI); (try unfold rwI); (try unfold waI); (try unfold leI); omega)) (fun u hu => hf (scI u) 4 (by (try unfold scI); (try unfold dyI); (try unfold rwI); (try unfold waI); (try unfold leI); omega)), i4_c hm h4 (hf _ _ (by (try unfold scI); (try unfold dyI); (try unfold rwI); (try unfold waI); (try unfold leI); omega)) (hf _ _ (by (try unfold scI); (try unfold dyI); (try unfold rwI); (try unfold waI); (try unfold leI); omega)) (fun u hu => hf (scI u) 0 (by (try unfold scI); (try unfold dyI); (try unfold rwI); (try unfold waI); (try unfold leI); omega)), i5_c h5 (hf _ _ (by (try unfold scI); (try unfold dyI); (try unfold rwI); (try unfold waI); (try unfold leI); omega)) (fun k => hf 3 k (by (try unfold scI); (try unfold dyI); (try unfold rwI); (try unfold waI); (try unfold leI); omega)), i6_c h6 (fun u hu => ⟨hf (scI u) 7 (by (try unfold scI); (try unfold dyI); (try unfold rwI); (try unfold waI); (try unfold leI); omega), hf (scI u) 3 (by (try unfold scI); (try unfold dyI); (try unfold rwI); (try unfold waI); (try unfold leI); omega), hf (scI u) 14 (by (try unfold scI); (try unfold dyI); (try unfold rwI); (try unfold waI); (try unfold leI); omega)⟩), i7_c h7 (hf _ _ (by (try unfold scI); (try unfold dyI); (try unfold rwI); (try unfold waI); (try unfold leI); omega)) (fun u hu hu2 => ⟨hf (scI u) 7 (by (try unfold scI); (try unfold dyI); (try unfold rwI); (try unfold waI); (try unfold leI); omega), hf (scI u) 15 (by (try unfold scI); (try unfold dyI); (try unfold rwI); (try unfold waI); (try unfold leI); omega), hf (scI u) 12 (by (try unfold scI); (try unfold dyI); (try unfold rwI); (try unfold waI); (try unfold leI); omega), hf (scI u) 11 (by (try unfold scI); (try unfold dyI); (try unfold rwI); (try unfold waI); (try unfold leI); omega), fun t ht => ⟨hf (waI u) t (by (try unfold scI); (try unfold dyI); (try unfold rwI); (try unfold waI); (try unfold leI); omega), hf (leI u) t (by (try unfold scI); (try unfold dyI); (try unfold rwI); (try unfold waI); (try unfold leI); omega)⟩⟩), i8_c h8 (hf _ _ (by (try unfold scI); (try unfold dyI); (try unfold rwI); (try unfold waI); (try unfold leI); omega)) (fun u hu => hf (scI u) 5 (by (try unfold scI); (try unfold dyI); (try unfold rwI); (try unfold waI); (try unfold leI); omega)), i9_c hm h9 (hf _ _ (by (try unfold scI); (try unfold dyI); (try unfold rwI); (try unfold waI); (try unfold leI); omega)) (fun u hu => ⟨hf (scI u) 11 (by (try unfold scI); (try unfold dyI); (try unfold rwI); (try unfold waI); (try unfold leI); omega), hf (scI u) 15 (by (try unfold scI); (try unfold dyI); (try unfold rwI); (try unfold waI); (try unfold leI); omega)⟩), ?_, i11_c h11 (fun t ht => hf (dyI t) 0 (by (try unfold scI); (try unfold dyI); (try unfold rwI); (try unfold waI); (try unfold leI); omega)) (fun k hk => hf 71 k (by (try unfold scI); (try unfold dyI); (try unfold rwI); (try unfold waI); (try unfold leI); omega)), i12_c h12 (by omega) (hf _ _ (by (try unfold scI); (try unfold dyI); (try unfold rwI); (try unfold waI); (try unfold leI); omega)) (hf _ _ (by (try unfold scI); (try unfold dyI); (try unfold rwI); (try unfold waI); (try unfold leI); omega))⟩
        intro u hu i hi hi2
        have e : vlc (m_up2 I (dyI t) 4 (wb (I (dyI t) 4) p (!q))) = vlc I := congrArg vN (hf _ _ (by unfold dyI; omega))
        rw [e] at hi
        by_cases z : u = t
        · rw [z, m_up2_eq, b_wb _ (!q) (by omega) (by omega), if_neg (by omega)]
          exact h10 t ht i hi hi2
        · rw [hf _ _ (by unfold dyI; omega)]
          exact h10 u hu i hi hi2
      refine Okc_go _ hm hC (fun lg d hd => k_permit q (by omega) hL hp ht) (fun a d h => m_up2_ne (by unfold dyI; omega)) hI1 (fun J J' hJ hC' hgw hne hz => ?_)
      have c1 := Cr_al (p := p) (t := t) (c := q) hm hL2 hC' hp ht
      refine ⟨_, fun lg d hd => ?_, c1, fQ_up (by decide), m_up2_ne (by omega)⟩
      have p1 := kr_pl1 (S := S) (J := J) (lg := lg) (d := d - 1) (by omega) (hJ.lc.trans hL.1) hL2 hp
      have d1 := kr_dy1 (S := S) (h := hh J lg) (d := d - 1) (by omega) ht
      have el : vlc (m_up2 I (dyI t) 4 (wb (I (dyI t) 4) p (!q))) = vlc I := congrArg vN (m_up2_ne (by unfold dyI; omega))
      have eN : fb_ct (fun i => !bt ((m_up2 I (dyI t) 4 (wb (I (dyI t) 4) p (!q))) (dyI i) 4) p) 30 = pc (wb (J' 166 p) t q) 30 := fb_ct_cong (fun i hi => by
        have e := c1.al (p := p) (t := i) (by rw [el]; exact hp) hi
        rw [m_up2_eq] at e
        exact e.symm)
      rw [eN]
      cases q
      · refine ms_aload_n dX11_permit_0 rfl ?_
        refine ms_aload_n dX11_permit_1 rfl ?_
        refine ms_iload_n dX11_permit_2 rfl ?_
        refine qRV1 dX11_permit_3 kX11_135 (by show _ < 178; first | decide | exact lt_sc (by omega) | exact lt_dy (by omega)) (by show (sh0 _).1 = _; first | rfl | rw [sh_sc (by omega)] | rw [sh_dy (by omega)]) (d := d - 1) (by show d - 1 + 1 ≤ d; omega) rfl (Nat.le_of_ble_eq_true rfl) (Nat.le_of_ble_eq_true rfl) (p1) rfl ?_
        refine ms_if_eq (tgt := 20) dX11_permit_6 (by decide) (fun c6 => absurd c6 (by decide)) (fun c6 => ?_)
        refine ms_iload_n dX11_permit_9 rfl ?_
        refine qRS1 dX11_permit_10 kX11_168 (d := d - 1) (by show d - 1 + 1 ≤ d; omega) rfl (Nat.le_of_ble_eq_true rfl) (Nat.le_of_ble_eq_true rfl) (d1) rfl ?_
        refine ms_if_eq (tgt := 20) dX11_permit_13 (by decide) (fun c13 => absurd c13 (by decide)) (fun c13 => ?_)
        refine ms_iconst (v := nI 0) dX11_permit_16 (by decide) ?_
        refine ms_goto (tgt := 21) dX11_permit_17 (by decide) ?_
        refine qRV1 dX11_permit_21 kX11_138 (by show _ < 178; first | decide | exact lt_sc (by omega) | exact lt_dy (by omega)) (by show (sh0 _).1 = _; first | rfl | rw [sh_sc (by omega)] | rw [sh_dy (by omega)]) (d := d - 1) (by show d - 1 + 1 ≤ d; omega) rfl (Nat.le_of_ble_eq_true rfl) (Nat.le_of_ble_eq_true rfl) (hgw _ _) rfl ?_
        refine ms_if_ne (tgt := 29) dX11_permit_24 (by decide) (fun c24 => ?_) (fun c24 => absurd c24 (by decide))
        refine ms_aload_n dX11_permit_29 rfl ?_
        refine q_getr dX11_permit_30 fX11_77 kd_11_30 (by first | decide | exact lt_sc (by omega) | exact lt_dy (by omega) | exact lt_rw (by omega) | exact lt_wa (by omega) | exact lt_le (by omega)) (by first | rfl | rw [sh_sc (by omega)] | rw [sh_dy (by omega)]) (by first | rfl | exact rf_wa (by omega) | exact rf_le (by omega) | exact rf_rw (by omega)) ?_
        refine ms_iload_n dX11_permit_33 rfl ?_
        refine ms_iload_n dX11_permit_34 rfl ?_
        refine ms_if_eq (tgt := 51) dX11_permit_35 (by decide) (fun c35 => ?_) (fun c35 => absurd c35 (by decide))
        refine ms_aload_n dX11_permit_51 rfl ?_
        refine q_getr dX11_permit_52 fX11_77 kd_11_30 (by first | decide | exact lt_sc (by omega) | exact lt_dy (by omega) | exact lt_rw (by omega) | exact lt_wa (by omega) | exact lt_le (by omega)) (by first | rfl | rw [sh_sc (by omega)] | rw [sh_dy (by omega)]) (by first | rfl | exact rf_wa (by omega) | exact rf_le (by omega) | exact rf_rw (by omega)) ?_
        refine ms_iload_n dX11_permit_55 rfl ?_
        refine q_iald dX11_permit_56 (by first | decide | exact lt_sc (by omega) | exact lt_dy (by omega) | exact lt_rw (by omega) | exact lt_wa (by omega) | exact lt_le (by omega)) (by first | rfl | exact sh_rw (by omega) | exact sh_wa (by omega) | exact sh_le (by omega)) (by omega) (by decide) (by first | assumption | ((repeat ((with_reducible apply m_up2_tr); · first | omega | (intro z; (try unfold scI at z); (try unfold dyI at z); (try unfold rwI at z); (try unfold waI at z); (try unfold leI at z); omega))); first | assumption | exact m_up2_eq | rfl)) ?_
        refine ms_iconst (v := nI 1) dX11_permit_57 (by decide) ?_
        refine ms_iload_n dX11_permit_58 rfl ?_
        refine ms_ishl dX11_permit_59 ?_
        refine ms_iconst (v := -1) dX11_permit_60 (by decide) ?_
        refine ms_ixor dX11_permit_61 ?_
        refine ms_iand dX11_permit_62 ?_
        refine q_iast dX11_permit_63 (by first | decide | exact lt_sc (by omega) | exact lt_dy (by omega) | exact lt_rw (by omega) | exact lt_wa (by omega) | exact lt_le (by omega)) (by first | rfl | exact sh_rw (by omega) | exact sh_wa (by omega) | exact sh_le (by omega)) (by omega) (by decide) ?_
        refine ms_aload_n dX11_permit_64 rfl ?_
        refine q_getr dX11_permit_65 fX11_77 kd_11_30 (by first | decide | exact lt_sc (by omega) | exact lt_dy (by omega) | exact lt_rw (by omega) | exact lt_wa (by omega) | exact lt_le (by omega)) (by first | rfl | rw [sh_sc (by omega)] | rw [sh_dy (by omega)]) (by first | rfl | exact rf_wa (by omega) | exact rf_le (by omega) | exact rf_rw (by omega)) ?_
        refine ms_iload_n dX11_permit_68 rfl ?_
        refine q_iald dX11_permit_69 (by first | decide | exact lt_sc (by omega) | exact lt_dy (by omega) | exact lt_rw (by omega) | exact lt_wa (by omega) | exact lt_le (by omega)) (by first | rfl | exact sh_rw (by omega) | exact sh_wa (by omega) | exact sh_le (by omega)) (by omega) (by decide) (by first | assumption | ((repeat ((with_reducible apply m_up2_tr); · first | omega | (intro z; (try unfold scI at z); (try unfold dyI at z); (try unfold rwI at z); (try unfold waI at z); (try unfold leI at z); omega))); first | assumption | exact m_up2_eq | rfl)) ?_
        refine qRS1 dX11_permit_70 kX11_151 (d := d - 1) (by show d - 1 + 1 ≤ d; omega) rfl (Nat.le_of_ble_eq_true rfl) (Nat.le_of_ble_eq_true rfl) (kr_size) rfl ?_
        refine ms_iret dX11_permit_73 rfl rfl ⟨?_, ?_⟩
        · rfl
        · rfl
      · refine ms_aload_n dX11_permit_0 rfl ?_
        refine ms_aload_n dX11_permit_1 rfl ?_
        refine ms_iload_n dX11_permit_2 rfl ?_
        refine qRV1 dX11_permit_3 kX11_135 (by show _ < 178; first | decide | exact lt_sc (by omega) | exact lt_dy (by omega)) (by show (sh0 _).1 = _; first | rfl | rw [sh_sc (by omega)] | rw [sh_dy (by omega)]) (d := d - 1) (by show d - 1 + 1 ≤ d; omega) rfl (Nat.le_of_ble_eq_true rfl) (Nat.le_of_ble_eq_true rfl) (p1) rfl ?_
        refine ms_if_eq (tgt := 20) dX11_permit_6 (by decide) (fun c6 => absurd c6 (by decide)) (fun c6 => ?_)
        refine ms_iload_n dX11_permit_9 rfl ?_
        refine qRS1 dX11_permit_10 kX11_168 (d := d - 1) (by show d - 1 + 1 ≤ d; omega) rfl (Nat.le_of_ble_eq_true rfl) (Nat.le_of_ble_eq_true rfl) (d1) rfl ?_
        refine ms_if_eq (tgt := 20) dX11_permit_13 (by decide) (fun c13 => absurd c13 (by decide)) (fun c13 => ?_)
        refine ms_iconst (v := nI 0) dX11_permit_16 (by decide) ?_
        refine ms_goto (tgt := 21) dX11_permit_17 (by decide) ?_
        refine qRV1 dX11_permit_21 kX11_138 (by show _ < 178; first | decide | exact lt_sc (by omega) | exact lt_dy (by omega)) (by show (sh0 _).1 = _; first | rfl | rw [sh_sc (by omega)] | rw [sh_dy (by omega)]) (d := d - 1) (by show d - 1 + 1 ≤ d; omega) rfl (Nat.le_of_ble_eq_true rfl) (Nat.le_of_ble_eq_true rfl) (hgw _ _) rfl ?_
        refine ms_if_ne (tgt := 29) dX11_permit_24 (by decide) (fun c24 => ?_) (fun c24 => absurd c24 (by decide))
        refine ms_aload_n dX11_permit_29 rfl ?_
        refine q_getr dX11_permit_30 fX11_77 kd_11_30 (by first | decide | exact lt_sc (by omega) | exact lt_dy (by omega) | exact lt_rw (by omega) | exact lt_wa (by omega) | exact lt_le (by omega)) (by first | rfl | rw [sh_sc (by omega)] | rw [sh_dy (by omega)]) (by first | rfl | exact rf_wa (by omega) | exact rf_le (by omega) | exact rf_rw (by omega)) ?_
        refine ms_iload_n dX11_permit_33 rfl ?_
        refine ms_iload_n dX11_permit_34 rfl ?_
        refine ms_if_eq (tgt := 51) dX11_permit_35 (by decide) (fun c35 => absurd c35 (by decide)) (fun c35 => ?_)
        refine ms_aload_n dX11_permit_38 rfl ?_
        refine q_getr dX11_permit_39 fX11_77 kd_11_30 (by first | decide | exact lt_sc (by omega) | exact lt_dy (by omega) | exact lt_rw (by omega) | exact lt_wa (by omega) | exact lt_le (by omega)) (by first | rfl | rw [sh_sc (by omega)] | rw [sh_dy (by omega)]) (by first | rfl | exact rf_wa (by omega) | exact rf_le (by omega) | exact rf_rw (by omega)) ?_
        refine ms_iload_n dX11_permit_42 rfl ?_
        refine q_iald dX11_permit_43 (by first | decide | exact lt_sc (by omega) | exact lt_dy (by omega) | exact lt_rw (by omega) | exact lt_wa (by omega) | exact lt_le (by omega)) (by first | rfl | exact sh_rw (by omega) | exact sh_wa (by omega) | exact sh_le (by omega)) (by omega) (by decide) (by first | assumption | ((repeat ((with_reducible apply m_up2_tr); · first | omega | (intro z; (try unfold scI at z); (try unfold dyI at z); (try unfold rwI at z); (try unfold waI at z); (try unfold leI at z); omega))); first | assumption | exact m_up2_eq | rfl)) ?_
        refine ms_iconst (v := nI 1) dX11_permit_44 (by decide) ?_
        refine ms_iload_n dX11_permit_45 rfl ?_
        refine ms_ishl dX11_permit_46 ?_
        refine ms_ior dX11_permit_47 ?_
        refine ms_goto (tgt := 63) dX11_permit_48 (by decide) ?_
        refine q_iast dX11_permit_63 (by first | decide | exact lt_sc (by omega) | exact lt_dy (by omega) | exact lt_rw (by omega) | exact lt_wa (by omega) | exact lt_le (by omega)) (by first | rfl | exact sh_rw (by omega) | exact sh_wa (by omega) | exact sh_le (by omega)) (by omega) (by decide) ?_
        refine ms_aload_n dX11_permit_64 rfl ?_
        refine q_getr dX11_permit_65 fX11_77 kd_11_30 (by first | decide | exact lt_sc (by omega) | exact lt_dy (by omega) | exact lt_rw (by omega) | exact lt_wa (by omega) | exact lt_le (by omega)) (by first | rfl | rw [sh_sc (by omega)] | rw [sh_dy (by omega)]) (by first | rfl | exact rf_wa (by omega) | exact rf_le (by omega) | exact rf_rw (by omega)) ?_
        refine ms_iload_n dX11_permit_68 rfl ?_
        refine q_iald dX11_permit_69 (by first | decide | exact lt_sc (by omega) | exact lt_dy (by omega) | exact lt_rw (by omega) | exact lt_wa (by omega) | exact lt_le (by omega)) (by first | rfl | exact sh_rw (by omega) | exact sh_wa (by omega) | exact sh_le (by omega)) (by omega) (by decide) (by first | assumption | ((repeat ((with_reducible apply m_up2_tr); · first | omega | (intro z; (try unfold scI at z); (try unfold dyI at z); (try unfold rwI at z); (try unfold waI at z); (try unfold leI at z); omega))); first | assumption | exact m_up2_eq | rfl)) ?_
        refine qRS1 dX11_permit_70 kX11_151 (d := d - 1) (by show d - 1 + 1 ≤ d; omega) rfl (Nat.le_of_ble_eq_true rfl) (Nat.le_of_ble_eq_true rfl) (kr_size) rfl ?_
        refine ms_iret dX11_permit_73 rfl rfl ⟨?_, ?_⟩
        · rfl
        · rfl
    · refine Okc_thr (k := 0) (E := xI) (b := some (.int (nI 0))) hI hC rfl (fun lg d hd => k_permitT2 (by omega) hL hp hy) (fun lg d hd => ?_)
      have p1 := kr_pl1 (S := S) (J := I) (lg := lg) (d := d - 1) (by omega) (hC.lc.trans hL.1) hL2 hp
      have d1 := kr_dy0 (S := S) (h := hh I lg) (d := d - 1) (by omega) hy
      refine ms_aload_n dX11_permit_0 rfl ?_
      refine ms_aload_n dX11_permit_1 rfl ?_
      refine ms_iload_n dX11_permit_2 rfl ?_
      refine qRV1 dX11_permit_3 kX11_135 (by show _ < 178; first | decide | exact lt_sc (by omega) | exact lt_dy (by omega)) (by show (sh0 _).1 = _; first | rfl | rw [sh_sc (by omega)] | rw [sh_dy (by omega)]) (d := d - 1) (by show d - 1 + 1 ≤ d; omega) rfl (Nat.le_of_ble_eq_true rfl) (Nat.le_of_ble_eq_true rfl) (p1) rfl ?_
      refine ms_if_eq (tgt := 20) dX11_permit_6 (by decide) (fun c6 => absurd c6 (by decide)) (fun c6 => ?_)
      refine ms_iload_n dX11_permit_9 rfl ?_
      refine qRS1 dX11_permit_10 kX11_168 (d := d - 1) (by show d - 1 + 1 ≤ d; omega) rfl (Nat.le_of_ble_eq_true rfl) (Nat.le_of_ble_eq_true rfl) (d1) rfl ?_
      refine ms_if_eq (tgt := 20) dX11_permit_13 (by decide) (fun c13 => ?_) (fun c13 => absurd c13 (by decide))
      refine ms_iconst (v := nI 1) dX11_permit_20 (by decide) ?_
      refine qRV1 dX11_permit_21 kX11_138 (by show _ < 178; first | decide | exact lt_sc (by omega) | exact lt_dy (by omega)) (by show (sh0 _).1 = _; first | rfl | rw [sh_sc (by omega)] | rw [sh_dy (by omega)]) (d := d - 1) (by show d - 1 + 1 ≤ d; omega) rfl (Nat.le_of_ble_eq_true rfl) (Nat.le_of_ble_eq_true rfl) (kr_gwk 0 (by decide)) rfl ?_
      refine ms_if_ne (tgt := 29) dX11_permit_24 (by decide) (fun c24 => absurd c24 (by decide)) (fun c24 => ?_)
      refine ms_iconst (v := nI 0) dX11_permit_27 (by decide) ?_
      refine ms_iret dX11_permit_28 rfl rfl ⟨?_, ?_⟩
      · rfl
      · rfl
  · refine Okc_thr (k := 0) (E := xI) (b := some (.int (nI 0))) hI hC rfl (fun lg d hd => k_permitT1 (by omega) hL hx) (fun lg d hd => ?_)
    have p1 := kr_pl0 (S := S) (J := I) (lg := lg) (d := d - 1) (by omega) (hC.lc.trans hL.1) hL2 hx
    refine ms_aload_n dX11_permit_0 rfl ?_
    refine ms_aload_n dX11_permit_1 rfl ?_
    refine ms_iload_n dX11_permit_2 rfl ?_
    refine qRV1 dX11_permit_3 kX11_135 (by show _ < 178; first | decide | exact lt_sc (by omega) | exact lt_dy (by omega)) (by show (sh0 _).1 = _; first | rfl | rw [sh_sc (by omega)] | rw [sh_dy (by omega)]) (d := d - 1) (by show d - 1 + 1 ≤ d; omega) rfl (Nat.le_of_ble_eq_true rfl) (Nat.le_of_ble_eq_true rfl) (p1) rfl ?_
    refine ms_if_eq (tgt := 20) dX11_permit_6 (by decide) (fun c6 => ?_) (fun c6 => absurd c6 (by decide))
    refine ms_iconst (v := nI 1) dX11_permit_20 (by decide) ?_
    refine qRV1 dX11_permit_21 kX11_138 (by show _ < 178; first | decide | exact lt_sc (by omega) | exact lt_dy (by omega)) (by show (sh0 _).1 = _; first | rfl | rw [sh_sc (by omega)] | rw [sh_dy (by omega)]) (d := d - 1) (by show d - 1 + 1 ≤ d; omega) rfl (Nat.le_of_ble_eq_true rfl) (Nat.le_of_ble_eq_true rfl) (kr_gwk 0 (by decide)) rfl ?_
    refine ms_if_ne (tgt := 29) dX11_permit_24 (by decide) (fun c24 => absurd c24 (by decide)) (fun c24 => ?_)
    refine ms_iconst (v := nI 0) dX11_permit_27 (by decide) ?_
    refine ms_iret dX11_permit_28 rfl rfl ⟨?_, ?_⟩
    · rfl
    · rfl
theorem o_person {S : m_S} {c : Nat} {I : m_I} (x1 x2 x3 : Int32) (q : Bool) (hI : Iv c I) (hC : Cr I I) : Okc S c I M_X10_person M_X11_person [.ref 0, .int x1, .int x2, .int x3, .int (bi q)] [.ref 143, .int x1, .int x2, .int x3, .int (bi q)] [xA, xS] := by
  have hm := hI.1.1
  have hP := Iv_Pn hI
  by_cases hb : (nI 0 ≤ x1 ∧ x1 ≤ nI 2) ∧ (nI 1 ≤ x2 ∧ x2 ≤ nI 1000) ∧ (nI 0 ≤ x3 ∧ x3 ≤ nI 180)
  · obtain ⟨b1, b2, b3⟩ := hb
    obtain ⟨n, hn⟩ : ∃ n, n = vpn I := ⟨_, rfl⟩
    rw [← hn] at hP
    obtain ⟨hP1, hP2⟩ := hP
    by_cases hn8 : n < 8
    · have hI1 : Iv (c + 1) (m_up2 (m_up2 (m_up2 (m_up2 (m_up2 I 66 n x1) 67 n x2) 68 n x3) 65 3 (wb (I 65 3) n q)) 65 4 (nI (n + 1))) := by
        obtain ⟨I0, hI0⟩ : ∃ I0, I0 = m_up2 (m_up2 (m_up2 (m_up2 I 66 n x1) 67 n x2) 68 n x3) 65 3 (wb (I 65 3) n q) := ⟨_, rfl⟩
        have hI00 : Iv c I0 := by
          rw [hI0]
          exact Iv_free (Iv_free (Iv_free (Iv_free hI (Nat.le_refl _) (by unfold usd; omega)) (Nat.le_refl _) (by unfold usd; omega)) (Nat.le_refl _) (by unfold usd; omega)) (Nat.le_refl _) (by unfold usd; omega)
        have hn0 : vpn I0 = n := by
          rw [hn, hI0]
          exact congrArg vN ((m_up2_ne (by omega)).trans ((m_up2_ne (by omega)).trans ((m_up2_ne (by omega)).trans (m_up2_ne (by omega)))))
        rw [← hI0]
        obtain ⟨h1, h2, h3, h4, h5, h6, h7, h8, h9, h10, h11, h12⟩ := hI00
        have hm := h1.1
        have hf : ∀ a d, ¬ (a = 65 ∧ d = 4) → m_up2 I0 65 4 (nI (n + 1)) a d = I0 a d := fun a d h => m_up2_ne h
        have e : vpn (m_up2 I0 65 4 (nI (n + 1))) = n + 1 := (congrArg vN m_up2_eq).trans (vN_nI (by omega))
        refine ⟨Vw_cong h1 (hf _ _ (by (try unfold scI); (try unfold dyI); (try unfold rwI); (try unfold waI); (try unfold leI); omega)) (fun t ht => ⟨hf (dyI t) 6 (by (try unfold scI); (try unfold dyI); (try unfold rwI); (try unfold waI); (try unfold leI); omega), fun j => hf (rwI t) j (by (try unfold scI); (try unfold dyI); (try unfold rwI); (try unfold waI); (try unfold leI); omega)⟩) (fun u hu => ⟨hf (scI u) 0 (by (try unfold scI); (try unfold dyI); (try unfold rwI); (try unfold waI); (try unfold leI); omega), hf (scI u) 15 (by (try unfold scI); (try unfold dyI); (try unfold rwI); (try unfold waI); (try unfold leI); omega)⟩), ?_, ?_, i4_c hm h4 (hf _ _ (by (try unfold scI); (try unfold dyI); (try unfold rwI); (try unfold waI); (try unfold leI); omega)) (hf _ _ (by (try unfold scI); (try unfold dyI); (try unfold rwI); (try unfold waI); (try unfold leI); omega)) (fun u hu => hf (scI u) 0 (by (try unfold scI); (try unfold dyI); (try unfold rwI); (try unfold waI); (try unfold leI); omega)), i5_c h5 (hf _ _ (by (try unfold scI); (try unfold dyI); (try unfold rwI); (try unfold waI); (try unfold leI); omega)) (fun k => hf 3 k (by (try unfold scI); (try unfold dyI); (try unfold rwI); (try unfold waI); (try unfold leI); omega)), i6_c h6 (fun u hu => ⟨hf (scI u) 7 (by (try unfold scI); (try unfold dyI); (try unfold rwI); (try unfold waI); (try unfold leI); omega), hf (scI u) 3 (by (try unfold scI); (try unfold dyI); (try unfold rwI); (try unfold waI); (try unfold leI); omega), hf (scI u) 14 (by (try unfold scI); (try unfold dyI); (try unfold rwI); (try unfold waI); (try unfold leI); omega)⟩), i7_c h7 (hf _ _ (by (try unfold scI); (try unfold dyI); (try unfold rwI); (try unfold waI); (try unfold leI); omega)) (fun u hu hu2 => ⟨hf (scI u) 7 (by (try unfold scI); (try unfold dyI); (try unfold rwI); (try unfold waI); (try unfold leI); omega), hf (scI u) 15 (by (try unfold scI); (try unfold dyI); (try unfold rwI); (try unfold waI); (try unfold leI); omega), hf (scI u) 12 (by (try unfold scI); (try unfold dyI); (try unfold rwI); (try unfold waI); (try unfold leI); omega), hf (scI u) 11 (by (try unfold scI); (try unfold dyI); (try unfold rwI); (try unfold waI); (try unfold leI); omega), fun t ht => ⟨hf (waI u) t (by (try unfold scI); (try unfold dyI); (try unfold rwI); (try unfold waI); (try unfold leI); omega), hf (leI u) t (by (try unfold scI); (try unfold dyI); (try unfold rwI); (try unfold waI); (try unfold leI); omega)⟩⟩), i8_c h8 (hf _ _ (by (try unfold scI); (try unfold dyI); (try unfold rwI); (try unfold waI); (try unfold leI); omega)) (fun u hu => hf (scI u) 5 (by (try unfold scI); (try unfold dyI); (try unfold rwI); (try unfold waI); (try unfold leI); omega)), i9_c hm h9 (hf _ _ (by (try unfold scI); (try unfold dyI); (try unfold rwI); (try unfold waI); (try unfold leI); omega)) (fun u hu => ⟨hf (scI u) 11 (by (try unfold scI); (try unfold dyI); (try unfold rwI); (try unfold waI); (try unfold leI); omega), hf (scI u) 15 (by (try unfold scI); (try unfold dyI); (try unfold rwI); (try unfold waI); (try unfold leI); omega)⟩), i10_c h10 (hf _ _ (by (try unfold scI); (try unfold dyI); (try unfold rwI); (try unfold waI); (try unfold leI); omega)) (fun t ht => hf (dyI t) 4 (by (try unfold scI); (try unfold dyI); (try unfold rwI); (try unfold waI); (try unfold leI); omega)), i11_c h11 (fun t ht => hf (dyI t) 0 (by (try unfold scI); (try unfold dyI); (try unfold rwI); (try unfold waI); (try unfold leI); omega)) (fun k hk => hf 71 k (by (try unfold scI); (try unfold dyI); (try unfold rwI); (try unfold waI); (try unfold leI); omega)), i12_c h12 (by omega) (hf _ _ (by (try unfold scI); (try unfold dyI); (try unfold rwI); (try unfold waI); (try unfold leI); omega)) (hf _ _ (by (try unfold scI); (try unfold dyI); (try unfold rwI); (try unfold waI); (try unfold leI); omega))⟩
        · refine ⟨by rw [e]; omega, ?_, ?_⟩
          · rw [show vlc (m_up2 I0 65 4 (nI (n + 1))) = vlc I0 from congrArg vN (hf _ _ (by omega))]
            exact h2.2.1
          · rw [show vt (m_up2 I0 65 4 (nI (n + 1))) = vt I0 from congrArg vN (hf _ _ (by omega))]
            exact h2.2.2
        · intro u hu i hi hi2
          rw [e] at hi
          rw [hf _ _ (by unfold scI; omega)]
          exact h3 u hu i (by omega) hi2
      refine Okc_go _ hm hC (fun lg d hd => k_person q (by omega) hP1 hn8 b1 b2 b3) (fun a d h => (m_up2_ne (by omega)).trans ((m_up2_ne (by omega)).trans ((m_up2_ne (by omega)).trans ((m_up2_ne (by omega)).trans (m_up2_ne (by omega)))))) hI1 (fun J J' hJ hC' hgw hne hz => ?_)
      have hv : ∀ (I2 : m_I) (a d : Nat) (x : Int32), vm I2 = vm I → a ≠ 1 → vm (m_up2 I2 a d x) = vm I := fun I2 a d x h ha => (congrArg vN (m_up2_ne (by omega))).trans h
      have e1 := hv I 66 n x1 rfl (by decide)
      have e2 := hv _ 67 n x2 e1 (by decide)
      have e3 := hv _ 68 n x3 e2 (by decide)
      have c1 : Cr (m_up2 I 66 n x1) (m_up2 J' 160 n x1) := Cr_up hm hC' (a := 160) (b := n) (by unfold lvR; omega) rfl (by omega) (by omega)
      have c2 : Cr (m_up2 (m_up2 I 66 n x1) 67 n x2) (m_up2 (m_up2 J' 160 n x1) 161 n x2) := Cr_up (by rw [e1]; exact hm) c1 (a := 161) (b := n) (by unfold lvR; omega) rfl (by omega) (by omega)
      have c3 : Cr (m_up2 (m_up2 (m_up2 I 66 n x1) 67 n x2) 68 n x3) (m_up2 (m_up2 (m_up2 J' 160 n x1) 161 n x2) 162 n x3) := Cr_up (by rw [e2]; exact hm) c2 (a := 162) (b := n) (by unfold lvR; omega) rfl (by omega) (by omega)
      have c4 := Cr_ch (n := n) (c := q) (by rw [e3]; exact hm) c3 hn8
      have e65 : m_up2 (m_up2 (m_up2 I 66 n x1) 67 n x2) 68 n x3 65 3 = I 65 3 := (m_up2_ne (by omega)).trans ((m_up2_ne (by omega)).trans (m_up2_ne (by omega)))
      rw [e65] at c4
      have e4 := hv _ 65 3 (wb (I 65 3) n q) e3 (by decide)
      have c5 := Cr_up (x := nI (n + 1)) (by rw [e4]; exact hm) c4 (a := 143) (b := 22) (c := 65) (d := 4) (by unfold lvR; omega) rfl (by omega) (by omega)
      refine ⟨_, fun lg d hd => ?_, c5, fQ_tr (fQ_up (by decide)) (fQ_tr (fQ_up (by decide)) (fQ_tr (fQ_up (by decide)) (fQ_tr (fQ_up (by decide)) (fQ_up (by decide))))), (m_up2_ne (by omega)).trans ((m_up2_ne (by omega)).trans ((m_up2_ne (by omega)).trans ((m_up2_ne (by omega)).trans (m_up2_ne (by omega)))))⟩
      have hpn : J 143 22 = nI n := hJ.pn.trans hP1
      have hpn' : J' 143 22 = nI n := hC'.pn.trans hP1
      have hz9 := bi_01 q
      have hfin : m_up2 (m_up2 (m_up2 (m_up2 (m_up2 J' 160 n x1) 161 n x2) 162 n x3) 163 n (bi q)) 143 22 (nI (n + 1)) 143 22 = nI (n + 1) := m_up2_eq
      refine ms_iload_n dX11_person_0 rfl ?_
      refine ms_iconst (v := nI 0) dX11_person_1 (by decide) ?_
      refine ms_iconst (v := nI 2) dX11_person_2 (by decide) ?_
      refine qRS3 dX11_person_3 kX11_117 (d := d - 1) (by show d - 1 + 1 ≤ d; omega) rfl rfl rfl (Nat.le_of_ble_eq_true rfl) (Nat.le_of_ble_eq_true rfl) (kr_in1 b1) rfl ?_
      refine ms_if_eq (tgt := 35) dX11_person_6 (by decide) (fun c6 => absurd c6 (by decide)) (fun c6 => ?_)
      refine ms_iload_n dX11_person_9 rfl ?_
      refine ms_iconst (v := nI 1) dX11_person_10 (by decide) ?_
      refine ms_sipush (v := nI 1000) dX11_person_11 (by decide) ?_
      refine qRS3 dX11_person_14 kX11_117 (d := d - 1) (by show d - 1 + 1 ≤ d; omega) rfl rfl rfl (Nat.le_of_ble_eq_true rfl) (Nat.le_of_ble_eq_true rfl) (kr_in1 b2) rfl ?_
      refine ms_if_eq (tgt := 35) dX11_person_17 (by decide) (fun c17 => absurd c17 (by decide)) (fun c17 => ?_)
      refine ms_iload_n dX11_person_20 rfl ?_
      refine ms_iconst (v := nI 0) dX11_person_21 (by decide) ?_
      refine ms_sipush (v := nI 180) dX11_person_22 (by decide) ?_
      refine qRS3 dX11_person_25 kX11_117 (d := d - 1) (by show d - 1 + 1 ≤ d; omega) rfl rfl rfl (Nat.le_of_ble_eq_true rfl) (Nat.le_of_ble_eq_true rfl) (kr_in1 b3) rfl ?_
      refine ms_if_eq (tgt := 35) dX11_person_28 (by decide) (fun c28 => absurd c28 (by decide)) (fun c28 => ?_)
      refine ms_iconst (v := nI 1) dX11_person_31 (by decide) ?_
      refine ms_goto (tgt := 36) dX11_person_32 (by decide) ?_
      refine ms_istore dX11_person_36 (Nat.le_of_ble_eq_true rfl) ?_
      refine ms_aload_n dX11_person_38 rfl ?_
      refine ms_iload dX11_person_39 rfl ?_
      refine ms_if_ne (tgt := 48) dX11_person_41 (by decide) (fun c41 => ?_) (fun c41 => absurd c41 (by decide))
      refine ms_aload_n dX11_person_48 rfl ?_
      refine q_geti dX11_person_49 fX11_121 (by rw [kd_11_22]; decide) (by first | decide | exact lt_sc (by omega) | exact lt_dy (by omega) | exact lt_rw (by omega) | exact lt_wa (by omega) | exact lt_le (by omega)) (by first | rfl | rw [sh_sc (by omega)] | rw [sh_dy (by omega)]) hpn ?_
      refine ms_bipush (v := nI 8) dX11_person_52 (by decide) ?_
      refine n_icmp_ne (tgt := 61) dX11_person_54 (by decide) (by omega) (by omega) (fun c54 => ?_) (fun c54 => absurd c54 (by omega))
      refine ms_iconst (v := nI 0) dX11_person_61 (by decide) ?_
      refine qRV1 dX11_person_62 kX11_138 (by show _ < 178; first | decide | exact lt_sc (by omega) | exact lt_dy (by omega)) (by show (sh0 _).1 = _; first | rfl | rw [sh_sc (by omega)] | rw [sh_dy (by omega)]) (d := d - 1) (by show d - 1 + 1 ≤ d; omega) rfl (Nat.le_of_ble_eq_true rfl) (Nat.le_of_ble_eq_true rfl) (hgw _ _) rfl ?_
      refine ms_if_ne (tgt := 70) dX11_person_65 (by decide) (fun c65 => ?_) (fun c65 => absurd c65 (by decide))
      refine ms_aload_n dX11_person_70 rfl ?_
      refine q_getr dX11_person_71 fX11_59 kd_11_23 (by first | decide | exact lt_sc (by omega) | exact lt_dy (by omega) | exact lt_rw (by omega) | exact lt_wa (by omega) | exact lt_le (by omega)) (by first | rfl | rw [sh_sc (by omega)] | rw [sh_dy (by omega)]) (by first | rfl | exact rf_wa (by omega) | exact rf_le (by omega) | exact rf_rw (by omega)) ?_
      refine ms_aload_n dX11_person_74 rfl ?_
      refine q_geti dX11_person_75 fX11_121 (by rw [kd_11_22]; decide) (by first | decide | exact lt_sc (by omega) | exact lt_dy (by omega) | exact lt_rw (by omega) | exact lt_wa (by omega) | exact lt_le (by omega)) (by first | rfl | rw [sh_sc (by omega)] | rw [sh_dy (by omega)]) (by first | assumption | ((repeat ((with_reducible apply m_up2_tr); · first | omega | (intro z; (try unfold scI at z); (try unfold dyI at z); (try unfold rwI at z); (try unfold waI at z); (try unfold leI at z); omega))); first | assumption | exact m_up2_eq | rfl)) ?_
      refine ms_iload_n dX11_person_78 rfl ?_
      refine q_iast dX11_person_79 (by first | decide | exact lt_sc (by omega) | exact lt_dy (by omega) | exact lt_rw (by omega) | exact lt_wa (by omega) | exact lt_le (by omega)) (by first | rfl | exact sh_rw (by omega) | exact sh_wa (by omega) | exact sh_le (by omega)) (by omega) (by decide) ?_
      refine ms_aload_n dX11_person_80 rfl ?_
      refine q_getr dX11_person_81 fX11_62 kd_11_24 (by first | decide | exact lt_sc (by omega) | exact lt_dy (by omega) | exact lt_rw (by omega) | exact lt_wa (by omega) | exact lt_le (by omega)) (by first | rfl | rw [sh_sc (by omega)] | rw [sh_dy (by omega)]) (by first | rfl | exact rf_wa (by omega) | exact rf_le (by omega) | exact rf_rw (by omega)) ?_
      refine ms_aload_n dX11_person_84 rfl ?_
      refine q_geti dX11_person_85 fX11_121 (by rw [kd_11_22]; decide) (by first | decide | exact lt_sc (by omega) | exact lt_dy (by omega) | exact lt_rw (by omega) | exact lt_wa (by omega) | exact lt_le (by omega)) (by first | rfl | rw [sh_sc (by omega)] | rw [sh_dy (by omega)]) (by first | assumption | ((repeat ((with_reducible apply m_up2_tr); · first | omega | (intro z; (try unfold scI at z); (try unfold dyI at z); (try unfold rwI at z); (try unfold waI at z); (try unfold leI at z); omega))); first | assumption | exact m_up2_eq | rfl)) ?_
      refine ms_iload_n dX11_person_88 rfl ?_
      refine q_iast dX11_person_89 (by first | decide | exact lt_sc (by omega) | exact lt_dy (by omega) | exact lt_rw (by omega) | exact lt_wa (by omega) | exact lt_le (by omega)) (by first | rfl | exact sh_rw (by omega) | exact sh_wa (by omega) | exact sh_le (by omega)) (by omega) (by decide) ?_
      refine ms_aload_n dX11_person_90 rfl ?_
      refine q_getr dX11_person_91 fX11_65 kd_11_25 (by first | decide | exact lt_sc (by omega) | exact lt_dy (by omega) | exact lt_rw (by omega) | exact lt_wa (by omega) | exact lt_le (by omega)) (by first | rfl | rw [sh_sc (by omega)] | rw [sh_dy (by omega)]) (by first | rfl | exact rf_wa (by omega) | exact rf_le (by omega) | exact rf_rw (by omega)) ?_
      refine ms_aload_n dX11_person_94 rfl ?_
      refine q_geti dX11_person_95 fX11_121 (by rw [kd_11_22]; decide) (by first | decide | exact lt_sc (by omega) | exact lt_dy (by omega) | exact lt_rw (by omega) | exact lt_wa (by omega) | exact lt_le (by omega)) (by first | rfl | rw [sh_sc (by omega)] | rw [sh_dy (by omega)]) (by first | assumption | ((repeat ((with_reducible apply m_up2_tr); · first | omega | (intro z; (try unfold scI at z); (try unfold dyI at z); (try unfold rwI at z); (try unfold waI at z); (try unfold leI at z); omega))); first | assumption | exact m_up2_eq | rfl)) ?_
      refine ms_iload_n dX11_person_98 rfl ?_
      refine q_iast dX11_person_99 (by first | decide | exact lt_sc (by omega) | exact lt_dy (by omega) | exact lt_rw (by omega) | exact lt_wa (by omega) | exact lt_le (by omega)) (by first | rfl | exact sh_rw (by omega) | exact sh_wa (by omega) | exact sh_le (by omega)) (by omega) (by decide) ?_
      refine ms_aload_n dX11_person_100 rfl ?_
      refine q_getr dX11_person_101 fX11_68 kd_11_26 (by first | decide | exact lt_sc (by omega) | exact lt_dy (by omega) | exact lt_rw (by omega) | exact lt_wa (by omega) | exact lt_le (by omega)) (by first | rfl | rw [sh_sc (by omega)] | rw [sh_dy (by omega)]) (by first | rfl | exact rf_wa (by omega) | exact rf_le (by omega) | exact rf_rw (by omega)) ?_
      refine ms_aload_n dX11_person_104 rfl ?_
      refine q_geti dX11_person_105 fX11_121 (by rw [kd_11_22]; decide) (by first | decide | exact lt_sc (by omega) | exact lt_dy (by omega) | exact lt_rw (by omega) | exact lt_wa (by omega) | exact lt_le (by omega)) (by first | rfl | rw [sh_sc (by omega)] | rw [sh_dy (by omega)]) (by first | assumption | ((repeat ((with_reducible apply m_up2_tr); · first | omega | (intro z; (try unfold scI at z); (try unfold dyI at z); (try unfold rwI at z); (try unfold waI at z); (try unfold leI at z); omega))); first | assumption | exact m_up2_eq | rfl)) ?_
      refine ms_iload dX11_person_108 rfl ?_
      refine q_zast dX11_person_110 (by first | decide | exact lt_sc (by omega) | exact lt_dy (by omega) | exact lt_rw (by omega) | exact lt_wa (by omega) | exact lt_le (by omega)) (by first | rfl | exact sh_rw (by omega) | exact sh_wa (by omega) | exact sh_le (by omega)) (by omega) (by decide) (by first | exact Or.inl (by decide) | exact Or.inr (by decide) | assumption | exact bi_01 _) ?_
      refine ms_aload_n dX11_person_111 rfl ?_
      refine ms_dup dX11_person_112 rfl ?_
      refine q_geti dX11_person_113 fX11_121 (by rw [kd_11_22]; decide) (by first | decide | exact lt_sc (by omega) | exact lt_dy (by omega) | exact lt_rw (by omega) | exact lt_wa (by omega) | exact lt_le (by omega)) (by first | rfl | rw [sh_sc (by omega)] | rw [sh_dy (by omega)]) (by first | assumption | ((repeat ((with_reducible apply m_up2_tr); · first | omega | (intro z; (try unfold scI at z); (try unfold dyI at z); (try unfold rwI at z); (try unfold waI at z); (try unfold leI at z); omega))); first | assumption | exact m_up2_eq | rfl)) ?_
      refine ms_iconst (v := nI 1) dX11_person_116 (by decide) ?_
      refine n_iadd dX11_person_117 ?_
      refine q_puti dX11_person_118 fX11_121 pX11_11_22 kd_11_22 (by first | decide | exact lt_sc (by omega) | exact lt_dy (by omega) | exact lt_rw (by omega) | exact lt_wa (by omega) | exact lt_le (by omega)) (by first | rfl | rw [sh_sc (by omega)] | rw [sh_dy (by omega)]) ?_
      refine ms_aload_n dX11_person_121 rfl ?_
      refine q_geti dX11_person_122 fX11_121 (by rw [kd_11_22]; decide) (by first | decide | exact lt_sc (by omega) | exact lt_dy (by omega) | exact lt_rw (by omega) | exact lt_wa (by omega) | exact lt_le (by omega)) (by first | rfl | rw [sh_sc (by omega)] | rw [sh_dy (by omega)]) hfin ?_
      refine ms_iconst (v := nI 1) dX11_person_125 (by decide) ?_
      refine n_isub dX11_person_126 (by omega) ?_
      refine ms_iret dX11_person_127 rfl rfl ⟨?_, ?_⟩
      · rfl
      · rfl
    · obtain rfl : n = 8 := by omega
      refine Okc_thr (k := 1) (E := xS) (b := some (.int (nI 0))) hI hC rfl (fun lg d hd => k_personT4 (by omega) hP1 b1 b2 b3) (fun lg d hd => ?_)
      have hpn : I 143 22 = nI 8 := hC.pn.trans hP1
      refine ms_iload_n dX11_person_0 rfl ?_
      refine ms_iconst (v := nI 0) dX11_person_1 (by decide) ?_
      refine ms_iconst (v := nI 2) dX11_person_2 (by decide) ?_
      refine qRS3 dX11_person_3 kX11_117 (d := d - 1) (by show d - 1 + 1 ≤ d; omega) rfl rfl rfl (Nat.le_of_ble_eq_true rfl) (Nat.le_of_ble_eq_true rfl) (kr_in1 b1) rfl ?_
      refine ms_if_eq (tgt := 35) dX11_person_6 (by decide) (fun c6 => absurd c6 (by decide)) (fun c6 => ?_)
      refine ms_iload_n dX11_person_9 rfl ?_
      refine ms_iconst (v := nI 1) dX11_person_10 (by decide) ?_
      refine ms_sipush (v := nI 1000) dX11_person_11 (by decide) ?_
      refine qRS3 dX11_person_14 kX11_117 (d := d - 1) (by show d - 1 + 1 ≤ d; omega) rfl rfl rfl (Nat.le_of_ble_eq_true rfl) (Nat.le_of_ble_eq_true rfl) (kr_in1 b2) rfl ?_
      refine ms_if_eq (tgt := 35) dX11_person_17 (by decide) (fun c17 => absurd c17 (by decide)) (fun c17 => ?_)
      refine ms_iload_n dX11_person_20 rfl ?_
      refine ms_iconst (v := nI 0) dX11_person_21 (by decide) ?_
      refine ms_sipush (v := nI 180) dX11_person_22 (by decide) ?_
      refine qRS3 dX11_person_25 kX11_117 (d := d - 1) (by show d - 1 + 1 ≤ d; omega) rfl rfl rfl (Nat.le_of_ble_eq_true rfl) (Nat.le_of_ble_eq_true rfl) (kr_in1 b3) rfl ?_
      refine ms_if_eq (tgt := 35) dX11_person_28 (by decide) (fun c28 => absurd c28 (by decide)) (fun c28 => ?_)
      refine ms_iconst (v := nI 1) dX11_person_31 (by decide) ?_
      refine ms_goto (tgt := 36) dX11_person_32 (by decide) ?_
      refine ms_istore dX11_person_36 (Nat.le_of_ble_eq_true rfl) ?_
      refine ms_aload_n dX11_person_38 rfl ?_
      refine ms_iload dX11_person_39 rfl ?_
      refine ms_if_ne (tgt := 48) dX11_person_41 (by decide) (fun c41 => ?_) (fun c41 => absurd c41 (by decide))
      refine ms_aload_n dX11_person_48 rfl ?_
      refine q_geti dX11_person_49 fX11_121 (by rw [kd_11_22]; decide) (by first | decide | exact lt_sc (by omega) | exact lt_dy (by omega) | exact lt_rw (by omega) | exact lt_wa (by omega) | exact lt_le (by omega)) (by first | rfl | rw [sh_sc (by omega)] | rw [sh_dy (by omega)]) hpn ?_
      refine ms_bipush (v := nI 8) dX11_person_52 (by decide) ?_
      refine n_icmp_ne (tgt := 61) dX11_person_54 (by decide) (by omega) (by omega) (fun c54 => absurd c54 (by omega)) (fun c54 => ?_)
      refine ms_iconst (v := nI 2) dX11_person_57 (by decide) ?_
      refine ms_goto (tgt := 62) dX11_person_58 (by decide) ?_
      refine qRV1 dX11_person_62 kX11_138 (by show _ < 178; first | decide | exact lt_sc (by omega) | exact lt_dy (by omega)) (by show (sh0 _).1 = _; first | rfl | rw [sh_sc (by omega)] | rw [sh_dy (by omega)]) (d := d - 1) (by show d - 1 + 1 ≤ d; omega) rfl (Nat.le_of_ble_eq_true rfl) (Nat.le_of_ble_eq_true rfl) (kr_gwk 1 (by decide)) rfl ?_
      refine ms_if_ne (tgt := 70) dX11_person_65 (by decide) (fun c65 => absurd c65 (by decide)) (fun c65 => ?_)
      refine ms_iconst (v := nI 0) dX11_person_68 (by decide) ?_
      refine ms_iret dX11_person_69 rfl rfl ⟨?_, ?_⟩
      · rfl
      · rfl
  · refine Okc_thr (k := 0) (E := xA) (b := some (.int (nI 0))) hI hC rfl (fun lg d hd => ?_) (fun lg d hd => ?_)
    · by_cases b1 : nI 0 ≤ x1 ∧ x1 ≤ nI 2
      · by_cases b2 : nI 1 ≤ x2 ∧ x2 ≤ nI 1000
        · exact k_personT3 (by omega) b1 b2 (fun b3 => hb ⟨b1, b2, b3⟩)
        · exact k_personT2 (by omega) b1 b2
      · exact k_personT1 (by omega) b1
    · by_cases b1 : nI 0 ≤ x1 ∧ x1 ≤ nI 2
      · by_cases b2 : nI 1 ≤ x2 ∧ x2 ≤ nI 1000
        · refine ms_iload_n dX11_person_0 rfl ?_
          refine ms_iconst (v := nI 0) dX11_person_1 (by decide) ?_
          refine ms_iconst (v := nI 2) dX11_person_2 (by decide) ?_
          refine qRS3 dX11_person_3 kX11_117 (d := d - 1) (by show d - 1 + 1 ≤ d; omega) rfl rfl rfl (Nat.le_of_ble_eq_true rfl) (Nat.le_of_ble_eq_true rfl) (kr_in1 b1) rfl ?_
          refine ms_if_eq (tgt := 35) dX11_person_6 (by decide) (fun c6 => absurd c6 (by decide)) (fun c6 => ?_)
          refine ms_iload_n dX11_person_9 rfl ?_
          refine ms_iconst (v := nI 1) dX11_person_10 (by decide) ?_
          refine ms_sipush (v := nI 1000) dX11_person_11 (by decide) ?_
          refine qRS3 dX11_person_14 kX11_117 (d := d - 1) (by show d - 1 + 1 ≤ d; omega) rfl rfl rfl (Nat.le_of_ble_eq_true rfl) (Nat.le_of_ble_eq_true rfl) (kr_in1 b2) rfl ?_
          refine ms_if_eq (tgt := 35) dX11_person_17 (by decide) (fun c17 => absurd c17 (by decide)) (fun c17 => ?_)
          refine ms_iload_n dX11_person_20 rfl ?_
          refine ms_iconst (v := nI 0) dX11_person_21 (by decide) ?_
          refine ms_sipush (v := nI 180) dX11_person_22 (by decide) ?_
          refine qRS3 dX11_person_25 kX11_117 (d := d - 1) (by show d - 1 + 1 ≤ d; omega) rfl rfl rfl (Nat.le_of_ble_eq_true rfl) (Nat.le_of_ble_eq_true rfl) (kr_in0 (fun b3 => hb ⟨b1, b2, b3⟩)) rfl ?_
          refine ms_if_eq (tgt := 35) dX11_person_28 (by decide) (fun c28 => ?_) (fun c28 => absurd c28 (by decide))
          refine ms_iconst (v := nI 0) dX11_person_35 (by decide) ?_
          refine ms_istore dX11_person_36 (Nat.le_of_ble_eq_true rfl) ?_
          refine ms_aload_n dX11_person_38 rfl ?_
          refine ms_iload dX11_person_39 rfl ?_
          refine ms_if_ne (tgt := 48) dX11_person_41 (by decide) (fun c41 => absurd c41 (by decide)) (fun c41 => ?_)
          refine ms_iconst (v := nI 1) dX11_person_44 (by decide) ?_
          refine ms_goto (tgt := 62) dX11_person_45 (by decide) ?_
          refine qRV1 dX11_person_62 kX11_138 (by show _ < 178; first | decide | exact lt_sc (by omega) | exact lt_dy (by omega)) (by show (sh0 _).1 = _; first | rfl | rw [sh_sc (by omega)] | rw [sh_dy (by omega)]) (d := d - 1) (by show d - 1 + 1 ≤ d; omega) rfl (Nat.le_of_ble_eq_true rfl) (Nat.le_of_ble_eq_true rfl) (kr_gwk 0 (by decide)) rfl ?_
          refine ms_if_ne (tgt := 70) dX11_person_65 (by decide) (fun c65 => absurd c65 (by decide)) (fun c65 => ?_)
          refine ms_iconst (v := nI 0) dX11_person_68 (by decide) ?_
          refine ms_iret dX11_person_69 rfl rfl ⟨?_, ?_⟩
          · rfl
          · rfl
        · refine ms_iload_n dX11_person_0 rfl ?_
          refine ms_iconst (v := nI 0) dX11_person_1 (by decide) ?_
          refine ms_iconst (v := nI 2) dX11_person_2 (by decide) ?_
          refine qRS3 dX11_person_3 kX11_117 (d := d - 1) (by show d - 1 + 1 ≤ d; omega) rfl rfl rfl (Nat.le_of_ble_eq_true rfl) (Nat.le_of_ble_eq_true rfl) (kr_in1 b1) rfl ?_
          refine ms_if_eq (tgt := 35) dX11_person_6 (by decide) (fun c6 => absurd c6 (by decide)) (fun c6 => ?_)
          refine ms_iload_n dX11_person_9 rfl ?_
          refine ms_iconst (v := nI 1) dX11_person_10 (by decide) ?_
          refine ms_sipush (v := nI 1000) dX11_person_11 (by decide) ?_
          refine qRS3 dX11_person_14 kX11_117 (d := d - 1) (by show d - 1 + 1 ≤ d; omega) rfl rfl rfl (Nat.le_of_ble_eq_true rfl) (Nat.le_of_ble_eq_true rfl) (kr_in0 b2) rfl ?_
          refine ms_if_eq (tgt := 35) dX11_person_17 (by decide) (fun c17 => ?_) (fun c17 => absurd c17 (by decide))
          refine ms_iconst (v := nI 0) dX11_person_35 (by decide) ?_
          refine ms_istore dX11_person_36 (Nat.le_of_ble_eq_true rfl) ?_
          refine ms_aload_n dX11_person_38 rfl ?_
          refine ms_iload dX11_person_39 rfl ?_
          refine ms_if_ne (tgt := 48) dX11_person_41 (by decide) (fun c41 => absurd c41 (by decide)) (fun c41 => ?_)
          refine ms_iconst (v := nI 1) dX11_person_44 (by decide) ?_
          refine ms_goto (tgt := 62) dX11_person_45 (by decide) ?_
          refine qRV1 dX11_person_62 kX11_138 (by show _ < 178; first | decide | exact lt_sc (by omega) | exact lt_dy (by omega)) (by show (sh0 _).1 = _; first | rfl | rw [sh_sc (by omega)] | rw [sh_dy (by omega)]) (d := d - 1) (by show d - 1 + 1 ≤ d; omega) rfl (Nat.le_of_ble_eq_true rfl) (Nat.le_of_ble_eq_true rfl) (kr_gwk 0 (by decide)) rfl ?_
          refine ms_if_ne (tgt := 70) dX11_person_65 (by decide) (fun c65 => absurd c65 (by decide)) (fun c65 => ?_)
          refine ms_iconst (v := nI 0) dX11_person_68 (by decide) ?_
          refine ms_iret dX11_person_69 rfl rfl ⟨?_, ?_⟩
          · rfl
          · rfl
      · refine ms_iload_n dX11_person_0 rfl ?_
        refine ms_iconst (v := nI 0) dX11_person_1 (by decide) ?_
        refine ms_iconst (v := nI 2) dX11_person_2 (by decide) ?_
        refine qRS3 dX11_person_3 kX11_117 (d := d - 1) (by show d - 1 + 1 ≤ d; omega) rfl rfl rfl (Nat.le_of_ble_eq_true rfl) (Nat.le_of_ble_eq_true rfl) (kr_in0 b1) rfl ?_
        refine ms_if_eq (tgt := 35) dX11_person_6 (by decide) (fun c6 => ?_) (fun c6 => absurd c6 (by decide))
        refine ms_iconst (v := nI 0) dX11_person_35 (by decide) ?_
        refine ms_istore dX11_person_36 (Nat.le_of_ble_eq_true rfl) ?_
        refine ms_aload_n dX11_person_38 rfl ?_
        refine ms_iload dX11_person_39 rfl ?_
        refine ms_if_ne (tgt := 48) dX11_person_41 (by decide) (fun c41 => absurd c41 (by decide)) (fun c41 => ?_)
        refine ms_iconst (v := nI 1) dX11_person_44 (by decide) ?_
        refine ms_goto (tgt := 62) dX11_person_45 (by decide) ?_
        refine qRV1 dX11_person_62 kX11_138 (by show _ < 178; first | decide | exact lt_sc (by omega) | exact lt_dy (by omega)) (by show (sh0 _).1 = _; first | rfl | rw [sh_sc (by omega)] | rw [sh_dy (by omega)]) (d := d - 1) (by show d - 1 + 1 ≤ d; omega) rfl (Nat.le_of_ble_eq_true rfl) (Nat.le_of_ble_eq_true rfl) (kr_gwk 0 (by decide)) rfl ?_
        refine ms_if_ne (tgt := 70) dX11_person_65 (by decide) (fun c65 => absurd c65 (by decide)) (fun c65 => ?_)
        refine ms_iconst (v := nI 0) dX11_person_68 (by decide) ?_
        refine ms_iret dX11_person_69 rfl rfl ⟨?_, ?_⟩
        · rfl
        · rfl
theorem b_all : ∀ i, i < 30 → bt 1073741823 i = true := by decide +kernel
theorem o_place {S : m_S} {c : Nat} {I : m_I} (x : Int32) (hI : Iv c I) (hC : Cr I I) : Okc S c I M_X10_place M_X11_place [.ref 0, .int x] [.ref 143, .int x] [xA, xS] := by
  have hm := hI.1.1
  have hL := Iv_Lc hI
  by_cases b1 : nI 0 ≤ x ∧ x ≤ nI 1000
  · obtain ⟨n, hn⟩ : ∃ n, n = vlc I := ⟨_, rfl⟩
    rw [← hn] at hL
    obtain ⟨hL1, hL2⟩ := hL
    by_cases hn6 : n < 6
    · obtain ⟨h1, h2, h3, h4, h5, h6, h7, h8, h9, h10, h11, h12⟩ := id hI
      have hf : ∀ a d, ¬ (a = 70 ∨ (a = 69 ∧ d = 2)) → m_up2 (m_up2 I 70 n x) 69 2 (nI (n + 1)) a d = I a d := fun a d h => (m_up2_ne (by omega)).trans (m_up2_ne (by omega))
      have e : vlc (m_up2 (m_up2 I 70 n x) 69 2 (nI (n + 1))) = n + 1 := (congrArg vN m_up2_eq).trans (vN_nI (by omega))
      have evm : vm (m_up2 (m_up2 I 70 n x) 69 2 (nI (n + 1))) = vm I := congrArg vN (hf _ _ (by omega))
      have hI1 : Iv (c + 1) (m_up2 (m_up2 I 70 n x) 69 2 (nI (n + 1))) := by
        refine ⟨Vw_cong h1 (hf _ _ (by (try unfold scI); (try unfold dyI); (try unfold rwI); (try unfold waI); (try unfold leI); omega)) (fun t ht => ⟨hf (dyI t) 6 (by (try unfold scI); (try unfold dyI); (try unfold rwI); (try unfold waI); (try unfold leI); omega), fun j => hf (rwI t) j (by (try unfold scI); (try unfold dyI); (try unfold rwI); (try unfold waI); (try unfold leI); omega)⟩) (fun u hu => ⟨hf (scI u) 0 (by (try unfold scI); (try unfold dyI); (try unfold rwI); (try unfold waI); (try unfold leI); omega), hf (scI u) 15 (by (try unfold scI); (try unfold dyI); (try unfold rwI); (try unfold waI); (try unfold leI); omega)⟩), ?_, i3_c h3 (hf _ _ (by (try unfold scI); (try unfold dyI); (try unfold rwI); (try unfold waI); (try unfold leI); omega)) (fun u hu => hf (scI u) 4 (by (try unfold scI); (try unfold dyI); (try unfold rwI); (try unfold waI); (try unfold leI); omega)), ?_, i5_c h5 (hf _ _ (by (try unfold scI); (try unfold dyI); (try unfold rwI); (try unfold waI); (try unfold leI); omega)) (fun k => hf 3 k (by (try unfold scI); (try unfold dyI); (try unfold rwI); (try unfold waI); (try unfold leI); omega)), i6_c h6 (fun u hu => ⟨hf (scI u) 7 (by (try unfold scI); (try unfold dyI); (try unfold rwI); (try unfold waI); (try unfold leI); omega), hf (scI u) 3 (by (try unfold scI); (try unfold dyI); (try unfold rwI); (try unfold waI); (try unfold leI); omega), hf (scI u) 14 (by (try unfold scI); (try unfold dyI); (try unfold rwI); (try unfold waI); (try unfold leI); omega)⟩), i7_c h7 (hf _ _ (by (try unfold scI); (try unfold dyI); (try unfold rwI); (try unfold waI); (try unfold leI); omega)) (fun u hu hu2 => ⟨hf (scI u) 7 (by (try unfold scI); (try unfold dyI); (try unfold rwI); (try unfold waI); (try unfold leI); omega), hf (scI u) 15 (by (try unfold scI); (try unfold dyI); (try unfold rwI); (try unfold waI); (try unfold leI); omega), hf (scI u) 12 (by (try unfold scI); (try unfold dyI); (try unfold rwI); (try unfold waI); (try unfold leI); omega), hf (scI u) 11 (by (try unfold scI); (try unfold dyI); (try unfold rwI); (try unfold waI); (try unfold leI); omega), fun t ht => ⟨hf (waI u) t (by (try unfold scI); (try unfold dyI); (try unfold rwI); (try unfold waI); (try unfold leI); omega), hf (leI u) t (by (try unfold scI); (try unfold dyI); (try unfold rwI); (try unfold waI); (try unfold leI); omega)⟩⟩), i8_c h8 (hf _ _ (by (try unfold scI); (try unfold dyI); (try unfold rwI); (try unfold waI); (try unfold leI); omega)) (fun u hu => hf (scI u) 5 (by (try unfold scI); (try unfold dyI); (try unfold rwI); (try unfold waI); (try unfold leI); omega)), i9_c hm h9 (hf _ _ (by (try unfold scI); (try unfold dyI); (try unfold rwI); (try unfold waI); (try unfold leI); omega)) (fun u hu => ⟨hf (scI u) 11 (by (try unfold scI); (try unfold dyI); (try unfold rwI); (try unfold waI); (try unfold leI); omega), hf (scI u) 15 (by (try unfold scI); (try unfold dyI); (try unfold rwI); (try unfold waI); (try unfold leI); omega)⟩), ?_, i11_c h11 (fun t ht => hf (dyI t) 0 (by (try unfold scI); (try unfold dyI); (try unfold rwI); (try unfold waI); (try unfold leI); omega)) (fun k hk => hf 71 k (by (try unfold scI); (try unfold dyI); (try unfold rwI); (try unfold waI); (try unfold leI); omega)), i12_c h12 (by omega) (hf _ _ (by (try unfold scI); (try unfold dyI); (try unfold rwI); (try unfold waI); (try unfold leI); omega)) (hf _ _ (by (try unfold scI); (try unfold dyI); (try unfold rwI); (try unfold waI); (try unfold leI); omega))⟩
        · refine ⟨?_, by rw [e]; omega, ?_⟩
          · rw [show vpn (m_up2 (m_up2 I 70 n x) 69 2 (nI (n + 1))) = vpn I from congrArg vN (hf _ _ (by omega))]
            exact h2.1
          · rw [show vt (m_up2 (m_up2 I 70 n x) 69 2 (nI (n + 1))) = vt I from congrArg vN (hf _ _ (by omega))]
            exact h2.2.2
        · intro u hu
          rw [evm] at hu
          unfold vp
          rw [e, hf _ _ (by unfold scI; omega)]
          have := h4 u hu
          unfold vp at this
          omega
        · intro u hu i hi hi2
          rw [e] at hi
          rw [hf _ _ (by unfold dyI; omega)]
          exact h10 u hu i (by omega) hi2
      refine Okc_go _ hm hC (fun lg d hd => k_place (by omega) hL1 hn6 b1) (fun a d h => hf _ _ (by omega)) hI1 (fun J J' hJ hC' hgw hne hz => ?_)
      have hR : ∀ a b, ¬ ((a = 165 ∨ a = 166) ∧ b = n) → ¬ (a = 143 ∧ b = 28) → m_up2 (m_up2 (m_up2 J' 165 n x) 166 n 1073741823) 143 28 (nI (n + 1)) a b = J' a b := fun a b z1 z2 => (m_up2_ne (by omega)).trans ((m_up2_ne (by omega)).trans (m_up2_ne (by omega)))
      have c3 : Cr (m_up2 (m_up2 I 70 n x) 69 2 (nI (n + 1))) (m_up2 (m_up2 (m_up2 J' 165 n x) 166 n 1073741823) 143 28 (nI (n + 1))) := by
        have c1 : Cr (m_up2 I 70 n x) (m_up2 J' 165 n x) := Cr_up hm hC' (a := 165) (b := n) (by unfold lvR; omega) rfl (by omega) (by omega)
        have ev1 : vm (m_up2 I 70 n x) = vm I := congrArg vN (m_up2_ne (by omega))
        refine ⟨fun a b hl => ?_, fun p hp => ?_, fun p t hp ht => ?_, fun p t hp ht => ?_⟩
        · rw [evm] at hl
          by_cases z : a = 143 ∧ b = 28
          · rw [z.1, z.2, m_up2_eq]
            exact m_up2_eq.symm
          · have z2 : ¬ (a = 166 ∧ b = n) := by unfold lvR at hl; omega
            have z3 : ¬ ((mpR a b).1 = 69 ∧ (mpR a b).2 = 2) := fun y => z (mp_inj hm hl (a2 := 143) (b2 := 28) (by unfold lvR; omega) y.1 y.2)
            rw [m_up2_ne z, m_up2_ne z2, m_up2_ne z3]
            exact c1.1 a b (by rw [ev1]; exact hl)
        · rw [hR _ _ (by omega) (by omega), hf _ _ (by omega)]
          exact hC'.ch hp
        · rw [hR _ _ (by omega) (by omega), hf _ _ (by unfold dyI; omega)]
          exact hC'.il hp ht
        · rw [e] at hp
          rw [hf _ _ (by unfold dyI; omega)]
          by_cases z : p = n
          · rw [z, m_up2_ne (by omega), m_up2_eq, b_all t ht, h10 t ht n (by omega) hn6]
            rfl
          · rw [hR _ _ (by omega) (by omega)]
            exact hC'.al (by omega) ht
      refine ⟨_, fun lg d hd => ?_, c3, fQ_tr (fQ_up (by decide)) (fQ_tr (fQ_up (by decide)) (fQ_up (by decide))), hR _ _ (by omega) (by omega)⟩
      have hlc : J 143 28 = nI n := hJ.lc.trans hL1
      have hlc' : J' 143 28 = nI n := hC'.lc.trans hL1
      have hfin : m_up2 (m_up2 (m_up2 J' 165 n x) 166 n 1073741823) 143 28 (nI (n + 1)) 143 28 = nI (n + 1) := m_up2_eq
      refine ms_aload_n dX11_place_0 rfl ?_
      refine ms_iload_n dX11_place_1 rfl ?_
      refine ms_iconst (v := nI 0) dX11_place_2 (by decide) ?_
      refine ms_sipush (v := nI 1000) dX11_place_3 (by decide) ?_
      refine qRS3 dX11_place_6 kX11_117 (d := d - 1) (by show d - 1 + 1 ≤ d; omega) rfl rfl rfl (Nat.le_of_ble_eq_true rfl) (Nat.le_of_ble_eq_true rfl) (kr_in1 b1) rfl ?_
      refine ms_if_ne (tgt := 16) dX11_place_9 (by decide) (fun c9 => ?_) (fun c9 => absurd c9 (by decide))
      refine ms_aload_n dX11_place_16 rfl ?_
      refine q_geti dX11_place_17 fX11_124 (by rw [kd_11_28]; decide) (by first | decide | exact lt_sc (by omega) | exact lt_dy (by omega) | exact lt_rw (by omega) | exact lt_wa (by omega) | exact lt_le (by omega)) (by first | rfl | rw [sh_sc (by omega)] | rw [sh_dy (by omega)]) hlc ?_
      refine ms_bipush (v := nI 6) dX11_place_20 (by decide) ?_
      refine n_icmp_ne (tgt := 29) dX11_place_22 (by decide) (by omega) (by omega) (fun c22 => ?_) (fun c22 => absurd c22 (by omega))
      refine ms_iconst (v := nI 0) dX11_place_29 (by decide) ?_
      refine qRV1 dX11_place_30 kX11_138 (by show _ < 178; first | decide | exact lt_sc (by omega) | exact lt_dy (by omega)) (by show (sh0 _).1 = _; first | rfl | rw [sh_sc (by omega)] | rw [sh_dy (by omega)]) (d := d - 1) (by show d - 1 + 1 ≤ d; omega) rfl (Nat.le_of_ble_eq_true rfl) (Nat.le_of_ble_eq_true rfl) (hgw _ _) rfl ?_
      refine ms_if_ne (tgt := 38) dX11_place_33 (by decide) (fun c33 => ?_) (fun c33 => absurd c33 (by decide))
      refine ms_aload_n dX11_place_38 rfl ?_
      refine q_getr dX11_place_39 fX11_74 kd_11_29 (by first | decide | exact lt_sc (by omega) | exact lt_dy (by omega) | exact lt_rw (by omega) | exact lt_wa (by omega) | exact lt_le (by omega)) (by first | rfl | rw [sh_sc (by omega)] | rw [sh_dy (by omega)]) (by first | rfl | exact rf_wa (by omega) | exact rf_le (by omega) | exact rf_rw (by omega)) ?_
      refine ms_aload_n dX11_place_42 rfl ?_
      refine q_geti dX11_place_43 fX11_124 (by rw [kd_11_28]; decide) (by first | decide | exact lt_sc (by omega) | exact lt_dy (by omega) | exact lt_rw (by omega) | exact lt_wa (by omega) | exact lt_le (by omega)) (by first | rfl | rw [sh_sc (by omega)] | rw [sh_dy (by omega)]) (by first | assumption | ((repeat ((with_reducible apply m_up2_tr); · first | omega | (intro z; (try unfold scI at z); (try unfold dyI at z); (try unfold rwI at z); (try unfold waI at z); (try unfold leI at z); omega))); first | assumption | exact m_up2_eq | rfl)) ?_
      refine ms_iload_n dX11_place_46 rfl ?_
      refine q_iast dX11_place_47 (by first | decide | exact lt_sc (by omega) | exact lt_dy (by omega) | exact lt_rw (by omega) | exact lt_wa (by omega) | exact lt_le (by omega)) (by first | rfl | exact sh_rw (by omega) | exact sh_wa (by omega) | exact sh_le (by omega)) (by omega) (by decide) ?_
      refine ms_aload_n dX11_place_48 rfl ?_
      refine q_getr dX11_place_49 fX11_77 kd_11_30 (by first | decide | exact lt_sc (by omega) | exact lt_dy (by omega) | exact lt_rw (by omega) | exact lt_wa (by omega) | exact lt_le (by omega)) (by first | rfl | rw [sh_sc (by omega)] | rw [sh_dy (by omega)]) (by first | rfl | exact rf_wa (by omega) | exact rf_le (by omega) | exact rf_rw (by omega)) ?_
      refine ms_aload_n dX11_place_52 rfl ?_
      refine q_geti dX11_place_53 fX11_124 (by rw [kd_11_28]; decide) (by first | decide | exact lt_sc (by omega) | exact lt_dy (by omega) | exact lt_rw (by omega) | exact lt_wa (by omega) | exact lt_le (by omega)) (by first | rfl | rw [sh_sc (by omega)] | rw [sh_dy (by omega)]) (by first | assumption | ((repeat ((with_reducible apply m_up2_tr); · first | omega | (intro z; (try unfold scI at z); (try unfold dyI at z); (try unfold rwI at z); (try unfold waI at z); (try unfold leI at z); omega))); first | assumption | exact m_up2_eq | rfl)) ?_
      refine ms_ldc dX11_place_56 lX11_171 ?_
      refine q_iast dX11_place_58 (by first | decide | exact lt_sc (by omega) | exact lt_dy (by omega) | exact lt_rw (by omega) | exact lt_wa (by omega) | exact lt_le (by omega)) (by first | rfl | exact sh_rw (by omega) | exact sh_wa (by omega) | exact sh_le (by omega)) (by omega) (by decide) ?_
      refine ms_aload_n dX11_place_59 rfl ?_
      refine ms_dup dX11_place_60 rfl ?_
      refine q_geti dX11_place_61 fX11_124 (by rw [kd_11_28]; decide) (by first | decide | exact lt_sc (by omega) | exact lt_dy (by omega) | exact lt_rw (by omega) | exact lt_wa (by omega) | exact lt_le (by omega)) (by first | rfl | rw [sh_sc (by omega)] | rw [sh_dy (by omega)]) (by first | assumption | ((repeat ((with_reducible apply m_up2_tr); · first | omega | (intro z; (try unfold scI at z); (try unfold dyI at z); (try unfold rwI at z); (try unfold waI at z); (try unfold leI at z); omega))); first | assumption | exact m_up2_eq | rfl)) ?_
      refine ms_iconst (v := nI 1) dX11_place_64 (by decide) ?_
      refine n_iadd dX11_place_65 ?_
      refine q_puti dX11_place_66 fX11_124 pX11_11_28 kd_11_28 (by first | decide | exact lt_sc (by omega) | exact lt_dy (by omega) | exact lt_rw (by omega) | exact lt_wa (by omega) | exact lt_le (by omega)) (by first | rfl | rw [sh_sc (by omega)] | rw [sh_dy (by omega)]) ?_
      refine ms_aload_n dX11_place_69 rfl ?_
      refine q_geti dX11_place_70 fX11_124 (by rw [kd_11_28]; decide) (by first | decide | exact lt_sc (by omega) | exact lt_dy (by omega) | exact lt_rw (by omega) | exact lt_wa (by omega) | exact lt_le (by omega)) (by first | rfl | rw [sh_sc (by omega)] | rw [sh_dy (by omega)]) hfin ?_
      refine ms_iconst (v := nI 1) dX11_place_73 (by decide) ?_
      refine n_isub dX11_place_74 (by omega) ?_
      refine ms_iret dX11_place_75 rfl rfl ⟨?_, ?_⟩
      · rfl
      · rfl
    · obtain rfl : n = 6 := by omega
      refine Okc_thr (k := 1) (E := xS) (b := some (.int (nI 0))) hI hC rfl (fun lg d hd => k_placeT2 (by omega) hL1 b1) (fun lg d hd => ?_)
      have hlc : I 143 28 = nI 6 := hC.lc.trans hL1
      refine ms_aload_n dX11_place_0 rfl ?_
      refine ms_iload_n dX11_place_1 rfl ?_
      refine ms_iconst (v := nI 0) dX11_place_2 (by decide) ?_
      refine ms_sipush (v := nI 1000) dX11_place_3 (by decide) ?_
      refine qRS3 dX11_place_6 kX11_117 (d := d - 1) (by show d - 1 + 1 ≤ d; omega) rfl rfl rfl (Nat.le_of_ble_eq_true rfl) (Nat.le_of_ble_eq_true rfl) (kr_in1 b1) rfl ?_
      refine ms_if_ne (tgt := 16) dX11_place_9 (by decide) (fun c9 => ?_) (fun c9 => absurd c9 (by decide))
      refine ms_aload_n dX11_place_16 rfl ?_
      refine q_geti dX11_place_17 fX11_124 (by rw [kd_11_28]; decide) (by first | decide | exact lt_sc (by omega) | exact lt_dy (by omega) | exact lt_rw (by omega) | exact lt_wa (by omega) | exact lt_le (by omega)) (by first | rfl | rw [sh_sc (by omega)] | rw [sh_dy (by omega)]) hlc ?_
      refine ms_bipush (v := nI 6) dX11_place_20 (by decide) ?_
      refine n_icmp_ne (tgt := 29) dX11_place_22 (by decide) (by omega) (by omega) (fun c22 => absurd c22 (by omega)) (fun c22 => ?_)
      refine ms_iconst (v := nI 2) dX11_place_25 (by decide) ?_
      refine ms_goto (tgt := 30) dX11_place_26 (by decide) ?_
      refine qRV1 dX11_place_30 kX11_138 (by show _ < 178; first | decide | exact lt_sc (by omega) | exact lt_dy (by omega)) (by show (sh0 _).1 = _; first | rfl | rw [sh_sc (by omega)] | rw [sh_dy (by omega)]) (d := d - 1) (by show d - 1 + 1 ≤ d; omega) rfl (Nat.le_of_ble_eq_true rfl) (Nat.le_of_ble_eq_true rfl) (kr_gwk 1 (by decide)) rfl ?_
      refine ms_if_ne (tgt := 38) dX11_place_33 (by decide) (fun c33 => absurd c33 (by decide)) (fun c33 => ?_)
      refine ms_iconst (v := nI 0) dX11_place_36 (by decide) ?_
      refine ms_iret dX11_place_37 rfl rfl ⟨?_, ?_⟩
      · rfl
      · rfl
  · refine Okc_thr (k := 0) (E := xA) (b := some (.int (nI 0))) hI hC rfl (fun lg d hd => k_placeT1 (by omega) b1) (fun lg d hd => ?_)
    refine ms_aload_n dX11_place_0 rfl ?_
    refine ms_iload_n dX11_place_1 rfl ?_
    refine ms_iconst (v := nI 0) dX11_place_2 (by decide) ?_
    refine ms_sipush (v := nI 1000) dX11_place_3 (by decide) ?_
    refine qRS3 dX11_place_6 kX11_117 (d := d - 1) (by show d - 1 + 1 ≤ d; omega) rfl rfl rfl (Nat.le_of_ble_eq_true rfl) (Nat.le_of_ble_eq_true rfl) (kr_in0 b1) rfl ?_
    refine ms_if_ne (tgt := 16) dX11_place_9 (by decide) (fun c9 => absurd c9 (by decide)) (fun c9 => ?_)
    refine ms_iconst (v := nI 1) dX11_place_12 (by decide) ?_
    refine ms_goto (tgt := 30) dX11_place_13 (by decide) ?_
    refine qRV1 dX11_place_30 kX11_138 (by show _ < 178; first | decide | exact lt_sc (by omega) | exact lt_dy (by omega)) (by show (sh0 _).1 = _; first | rfl | rw [sh_sc (by omega)] | rw [sh_dy (by omega)]) (d := d - 1) (by show d - 1 + 1 ≤ d; omega) rfl (Nat.le_of_ble_eq_true rfl) (Nat.le_of_ble_eq_true rfl) (kr_gwk 0 (by decide)) rfl ?_
    refine ms_if_ne (tgt := 38) dX11_place_33 (by decide) (fun c33 => absurd c33 (by decide)) (fun c33 => ?_)
    refine ms_iconst (v := nI 0) dX11_place_36 (by decide) ?_
    refine ms_iret dX11_place_37 rfl rfl ⟨?_, ?_⟩
    · rfl
    · rfl

