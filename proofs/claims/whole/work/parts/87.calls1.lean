-- NAME calls1
/-! calls: labels, what a scene needs, looks, what binds -/
def xI : String := "java/lang/IndexOutOfBoundsException"
def xA : String := "java/lang/IllegalArgumentException"
def xS : String := "java/lang/IllegalStateException"
/-- the reference says that it goes well, and goes on -/
theorem Okc_go {S : m_S} {c : Nat} {I I1 : m_I} {Mc Mr : m_M} {A Ar : List Value} {Es : List String} (r : Option Value) (hm : vm I ≤ 20) (hC : Cr I I) (hc : ∀ lg d, 9 ≤ d → m_R S Mc d A (hh I lg) r (hh I1 lg)) (h1 : ∀ a b, 143 ≤ a → I1 a b = I a b) (hI : Iv (c + 1) I1) (hr : ∀ J J', Cr I J → Cr I J' → (∀ lg d, m_R S M_X11_goesWell d [.ref 143, .int (nI 0)] (hh J lg) (some (.int (bi true))) (hh J' lg)) → (∀ a b, ¬ (a = 143 ∧ b = 0) → J' a b = J a b) → J' 143 0 = nI 0 → ∃ J2, (∀ lg d, 9 ≤ d → m_R S Mr d Ar (hh J lg) r (hh J2 lg)) ∧ Cr I1 J2 ∧ fQ J' J2 ∧ J2 143 0 = J' 143 0) : Okc S c I Mc Mr A Ar Es := by
  refine Okc_ok hm hC hc h1 hI (fun J hJ => ?_)
  obtain ⟨J', hJ'⟩ : ∃ J', J' = m_up2 J 143 0 (nI 0) := ⟨_, rfl⟩
  have hC' : Cr I J' := by rw [hJ']; exact Cr_thr hm hJ _
  have hz : J' 143 0 = nI 0 := by rw [hJ']; exact m_up2_eq
  have hgw : ∀ lg d, m_R S M_X11_goesWell d [.ref 143, .int (nI 0)] (hh J lg) (some (.int (bi true))) (hh J' lg) := fun lg d => by rw [hJ']; exact kr_gw0
  have hq : fQ J J' := by rw [hJ']; exact fQ_up (by decide)
  obtain ⟨J2, g1, g2, g3, g4⟩ := hr J J' hJ hC' hgw (fun a b h => by rw [hJ']; exact m_up2_ne h) hz
  exact ⟨J2, g1, g2, fQ_tr hq g3, g4.trans hz⟩
theorem od_ix {I : m_I} (h : i5 I) {s : Nat} (hs : s < vm I) : ∃ i, i < vm I ∧ vo I i = s ∧ ∀ j, j < i → vo I j ≠ s := by
  obtain ⟨i, hi, he⟩ := fb_onto (f := vo I) h.1 (fun i j hij hj e => by have := h.2 i j (by omega) hj e; omega) hs
  exact ⟨i, hi, he, fun j hj e => by have := h.2 j i (by omega) hi (e.trans he.symm); omega⟩
theorem o_label {S : m_S} {c : Nat} {I : m_I} (x : Int32) (hI : Iv c I) (hC : Cr I I) : Okc S c I M_X10_label M_X11_label [.ref 0, .int x] [.ref 143, .int x] [xI] := by
  have hm := hI.1.1
  have hM := Iv_Md hI
  have ho := Iv_o hI
  rcases ix_or x (n := vm I) (by omega) with ⟨s, hs, rfl⟩ | hx
  · have hs20 : s < 20 := by omega
    obtain ⟨i, hi, he, hf⟩ := od_ix hI.2.2.2.2.1 hs
    have he2 : I 3 i = nI s := by rw [(ho i hi).1, he]
    have hf2 : ∀ j, j < i → I 3 j ≠ nI s := fun j hj e => by
      rw [(ho j (by omega)).1] at e
      exact hf j hj ((nI_eq (by have := (ho j (by omega)).2; omega) (by omega)).mp e)
    by_cases hlo : I 1 4 = 0
    · refine Okc_go (I1 := I) (some (.int (nI (100 * (i + 1))))) hm hC (fun lg d hd => k_label (by omega) hM hs (fun d hd => k_labelOf0 hd hlo hM.1 hm hi hs20 he2 hf2)) (fun _ _ _ => rfl) (Iv_same hI (by omega) (fun _ _ _ => rfl)) (fun J J' hJ hC' hgw hne hz => ?_)
      refine ⟨J', fun lg d hd => ?_, hC', fun _ _ _ => rfl, rfl⟩
      have hsc := kr_sc1 (S := S) (J := J) (lg := lg) (d := d - 1) (by omega) (hJ.m.trans hM.1) hm hs
      have hlk : J' 143 2 = 0 := hC'.lk.trans hlo
      have hpi := kr_placeIn (S := S) (I := J') (lg := lg) (d := d - 1) (s := s) (a := i) (by omega) ((hC'.st (by omega)).trans he2) (fun j hj => by rw [hC'.st (by omega)]; exact hf2 j hj)
      refine ms_aload_n dX11_label_0 rfl ?_
      refine ms_aload_n dX11_label_1 rfl ?_
      refine ms_iload_n dX11_label_2 rfl ?_
      refine qRV1 dX11_label_3 kX11_131 (by show _ < 178; first | decide | exact lt_sc (by omega) | exact lt_dy (by omega)) (by show (sh0 _).1 = _; first | rfl | rw [sh_sc (by omega)] | rw [sh_dy (by omega)]) (d := d - 1) (by show d - 1 + 1 ≤ d; omega) rfl (Nat.le_of_ble_eq_true rfl) (Nat.le_of_ble_eq_true rfl) (hsc) rfl ?_
      refine ms_if_eq (tgt := 13) dX11_label_6 (by decide) (fun c6 => absurd c6 (by decide)) (fun c6 => ?_)
      refine ms_iconst (v := nI 0) dX11_label_9 (by decide) ?_
      refine ms_goto (tgt := 14) dX11_label_10 (by decide) ?_
      refine qRV1 dX11_label_14 kX11_138 (by show _ < 178; first | decide | exact lt_sc (by omega) | exact lt_dy (by omega)) (by show (sh0 _).1 = _; first | rfl | rw [sh_sc (by omega)] | rw [sh_dy (by omega)]) (d := d - 1) (by show d - 1 + 1 ≤ d; omega) rfl (Nat.le_of_ble_eq_true rfl) (Nat.le_of_ble_eq_true rfl) (hgw _ _) rfl ?_
      refine ms_if_ne (tgt := 22) dX11_label_17 (by decide) (fun c17 => ?_) (fun c17 => absurd c17 (by decide))
      refine ms_aload_n dX11_label_22 rfl ?_
      refine q_geti dX11_label_23 fX11_141 (by rw [kd_11_2]; decide) (by first | decide | exact lt_sc (by omega) | exact lt_dy (by omega) | exact lt_rw (by omega) | exact lt_wa (by omega) | exact lt_le (by omega)) (by first | rfl | rw [sh_sc (by omega)] | rw [sh_dy (by omega)]) hlk ?_
      refine ms_if_eq (tgt := 48) dX11_label_26 (by decide) (fun c26 => ?_) (fun c26 => absurd c26 (by decide))
      refine ms_bipush (v := nI 100) dX11_label_48 (by decide) ?_
      refine ms_aload_n dX11_label_50 rfl ?_
      refine ms_iload_n dX11_label_51 rfl ?_
      refine qRV1 dX11_label_52 kX11_127 (by show _ < 178; first | decide | exact lt_sc (by omega) | exact lt_dy (by omega)) (by show (sh0 _).1 = _; first | rfl | rw [sh_sc (by omega)] | rw [sh_dy (by omega)]) (d := d - 1) (by show d - 1 + 1 ≤ d; omega) rfl (Nat.le_of_ble_eq_true rfl) (Nat.le_of_ble_eq_true rfl) (hpi) rfl ?_
      refine ms_iconst (v := nI 1) dX11_label_55 (by decide) ?_
      refine n_iadd dX11_label_56 ?_
      refine n_imul dX11_label_57 ?_
      refine ms_iret dX11_label_58 rfl rfl ⟨?_, ?_⟩
      · rfl
      · rfl
    · refine Okc_go (I1 := I) (some (.int (nI 100 * I (scI s) 6 + I (scI s) 7))) hm hC (fun lg d hd => k_label (by omega) hM hs (fun d hd => k_labelOf1 hlo hs20)) (fun _ _ _ => rfl) (Iv_same hI (by omega) (fun _ _ _ => rfl)) (fun J J' hJ hC' hgw hne hz => ?_)
      refine ⟨J', fun lg d hd => ?_, hC', fun _ _ _ => rfl, rfl⟩
      have hsc := kr_sc1 (S := S) (J := J) (lg := lg) (d := d - 1) (by omega) (hJ.m.trans hM.1) hm hs
      have hlk : J' 143 2 = I 1 4 := hC'.lk
      have hnu := hC'.nu hs20
      have hle := hC'.le hs20
      refine ms_aload_n dX11_label_0 rfl ?_
      refine ms_aload_n dX11_label_1 rfl ?_
      refine ms_iload_n dX11_label_2 rfl ?_
      refine qRV1 dX11_label_3 kX11_131 (by show _ < 178; first | decide | exact lt_sc (by omega) | exact lt_dy (by omega)) (by show (sh0 _).1 = _; first | rfl | rw [sh_sc (by omega)] | rw [sh_dy (by omega)]) (d := d - 1) (by show d - 1 + 1 ≤ d; omega) rfl (Nat.le_of_ble_eq_true rfl) (Nat.le_of_ble_eq_true rfl) (hsc) rfl ?_
      refine ms_if_eq (tgt := 13) dX11_label_6 (by decide) (fun c6 => absurd c6 (by decide)) (fun c6 => ?_)
      refine ms_iconst (v := nI 0) dX11_label_9 (by decide) ?_
      refine ms_goto (tgt := 14) dX11_label_10 (by decide) ?_
      refine qRV1 dX11_label_14 kX11_138 (by show _ < 178; first | decide | exact lt_sc (by omega) | exact lt_dy (by omega)) (by show (sh0 _).1 = _; first | rfl | rw [sh_sc (by omega)] | rw [sh_dy (by omega)]) (d := d - 1) (by show d - 1 + 1 ≤ d; omega) rfl (Nat.le_of_ble_eq_true rfl) (Nat.le_of_ble_eq_true rfl) (hgw _ _) rfl ?_
      refine ms_if_ne (tgt := 22) dX11_label_17 (by decide) (fun c17 => ?_) (fun c17 => absurd c17 (by decide))
      refine ms_aload_n dX11_label_22 rfl ?_
      refine q_geti dX11_label_23 fX11_141 (by rw [kd_11_2]; decide) (by first | decide | exact lt_sc (by omega) | exact lt_dy (by omega) | exact lt_rw (by omega) | exact lt_wa (by omega) | exact lt_le (by omega)) (by first | rfl | rw [sh_sc (by omega)] | rw [sh_dy (by omega)]) hlk ?_
      refine ms_if_eq (tgt := 48) dX11_label_26 (by decide) (fun c26 => absurd c26 (fun z => hlo z)) (fun c26 => ?_)
      refine ms_bipush (v := nI 100) dX11_label_29 (by decide) ?_
      refine ms_aload_n dX11_label_31 rfl ?_
      refine q_getr dX11_label_32 fX11_13 kd_11_5 (by first | decide | exact lt_sc (by omega) | exact lt_dy (by omega) | exact lt_rw (by omega) | exact lt_wa (by omega) | exact lt_le (by omega)) (by first | rfl | rw [sh_sc (by omega)] | rw [sh_dy (by omega)]) (by first | rfl | exact rf_wa (by omega) | exact rf_le (by omega) | exact rf_rw (by omega)) ?_
      refine ms_iload_n dX11_label_35 rfl ?_
      refine q_iald dX11_label_36 (by first | decide | exact lt_sc (by omega) | exact lt_dy (by omega) | exact lt_rw (by omega) | exact lt_wa (by omega) | exact lt_le (by omega)) (by first | rfl | exact sh_rw (by omega) | exact sh_wa (by omega) | exact sh_le (by omega)) (by omega) (by decide) hnu ?_
      refine ms_imul dX11_label_37 ?_
      refine ms_aload_n dX11_label_38 rfl ?_
      refine q_getr dX11_label_39 fX11_16 kd_11_6 (by first | decide | exact lt_sc (by omega) | exact lt_dy (by omega) | exact lt_rw (by omega) | exact lt_wa (by omega) | exact lt_le (by omega)) (by first | rfl | rw [sh_sc (by omega)] | rw [sh_dy (by omega)]) (by first | rfl | exact rf_wa (by omega) | exact rf_le (by omega) | exact rf_rw (by omega)) ?_
      refine ms_iload_n dX11_label_42 rfl ?_
      refine q_iald dX11_label_43 (by first | decide | exact lt_sc (by omega) | exact lt_dy (by omega) | exact lt_rw (by omega) | exact lt_wa (by omega) | exact lt_le (by omega)) (by first | rfl | exact sh_rw (by omega) | exact sh_wa (by omega) | exact sh_le (by omega)) (by omega) (by decide) hle ?_
      refine ms_iadd dX11_label_44 ?_
      refine ms_goto (tgt := 58) dX11_label_45 (by decide) ?_
      refine ms_iret dX11_label_58 rfl rfl ⟨?_, ?_⟩
      · rfl
      · rfl
  · refine Okc_thr (k := 0) (E := xI) (b := some (.int (nI 0))) hI hC rfl (fun lg d hd => k_labelT (by omega) hM hx) (fun lg d hd => ?_)
    have hsc := kr_sc0 (S := S) (J := I) (lg := lg) (d := d - 1) (by omega) (hC.m.trans hM.1) hm hx
    refine ms_aload_n dX11_label_0 rfl ?_
    refine ms_aload_n dX11_label_1 rfl ?_
    refine ms_iload_n dX11_label_2 rfl ?_
    refine qRV1 dX11_label_3 kX11_131 (by show _ < 178; first | decide | exact lt_sc (by omega) | exact lt_dy (by omega)) (by show (sh0 _).1 = _; first | rfl | rw [sh_sc (by omega)] | rw [sh_dy (by omega)]) (d := d - 1) (by show d - 1 + 1 ≤ d; omega) rfl (Nat.le_of_ble_eq_true rfl) (Nat.le_of_ble_eq_true rfl) (hsc) rfl ?_
    refine ms_if_eq (tgt := 13) dX11_label_6 (by decide) (fun c6 => ?_) (fun c6 => absurd c6 (by decide))
    refine ms_iconst (v := nI 1) dX11_label_13 (by decide) ?_
    refine qRV1 dX11_label_14 kX11_138 (by show _ < 178; first | decide | exact lt_sc (by omega) | exact lt_dy (by omega)) (by show (sh0 _).1 = _; first | rfl | rw [sh_sc (by omega)] | rw [sh_dy (by omega)]) (d := d - 1) (by show d - 1 + 1 ≤ d; omega) rfl (Nat.le_of_ble_eq_true rfl) (Nat.le_of_ble_eq_true rfl) (kr_gwk 0 (by decide)) rfl ?_
    refine ms_if_ne (tgt := 22) dX11_label_17 (by decide) (fun c17 => absurd c17 (by decide)) (fun c17 => ?_)
    refine ms_iconst (v := nI 0) dX11_label_20 (by decide) ?_
    refine ms_iret dX11_label_21 rfl rfl ⟨?_, ?_⟩
    · rfl
    · rfl
def klR (J : m_I) (o : Nat → Nat) : Nat → m_I
  | 0 => J
  | k + 1 => m_up2 (klR J o k) 145 (o k) (nI (k + 1))
theorem klR_ne {J : m_I} {o : Nat → Nat} {k a b : Nat} (h : a ≠ 145) : klR J o k a b = J a b := by
  induction k with
  | zero => rfl
  | succ k ih => exact (m_up2_ne (by omega)).trans ih
theorem m_up2_cm {α : Type} (f : Nat → Nat → α) {a b c d : Nat} (x y : α) (h : ¬ (a = c ∧ b = d)) : m_up2 (m_up2 f a b x) c d y = m_up2 (m_up2 f c d y) a b x := by
  funext i j
  unfold m_up2
  by_cases h1 : i = c ∧ j = d
  · rw [if_pos h1, if_pos h1, if_neg (fun z => h ⟨z.1.symm.trans h1.1, z.2.symm.trans h1.2⟩)]
  · rw [if_neg h1, if_neg h1]
theorem klC_up {I : m_I} {o : Nat → Nat} {x : Int32} : ∀ k, m_up2 (klC I o k) 1 4 x = klC (m_up2 I 1 4 x) o k := by
  intro k
  induction k with
  | zero => rfl
  | succ k ih =>
    show m_up2 (m_up2 (klC I o k) (scI (o k)) 6 (nI (k + 1))) 1 4 x = m_up2 (klC (m_up2 I 1 4 x) o k) (scI (o k)) 6 (nI (k + 1))
    rw [m_up2_cm _ _ _ (by unfold scI; omega), ih]
theorem Cr_kl {I J : m_I} {o : Nat → Nat} (hm : vm I ≤ 20) (h : Cr I J) : ∀ k, (∀ j, j < k → o j < 20) → Cr (klC I o k) (klR J o k) := by
  intro k
  induction k with
  | zero => exact fun _ => h
  | succ k ih =>
    intro ho
    have e : vm (klC I o k) = vm I := congrArg vN (klC_ne (Or.inr (by decide)))
    have hk := ho k (by omega)
    exact Cr_up (by rw [e]; exact hm) (ih (fun j hj => ho j (by omega))) (a := 145) (b := o k) (c := scI (o k)) (d := 6) (by unfold lvR; omega) rfl (by unfold scI; omega) (by unfold scI; omega)
theorem o_lock {S : m_S} {c : Nat} {I : m_I} (hI : Iv c I) (hC : Cr I I) : Okc S c I M_X10_lock M_X11_lock [.ref 0] [.ref 143] [xS] := by
  have hm := hI.1.1
  have hM := Iv_Md hI
  have ho := Iv_o hI
  obtain ⟨o, hoe⟩ : ∃ o, o = vo I := ⟨_, rfl⟩
  rw [← hoe] at ho
  by_cases hlo : I 1 4 = 0
  · have key : ∀ a b, ¬ (5 ≤ a ∧ a < 65 ∧ (a - 5) % 3 = 0 ∧ b = 6) → ∀ k, k ≤ vm I → klC I o k a b = I a b := by
      intro a b h k
      induction k with
      | zero => exact fun _ => rfl
      | succ k ih => exact fun hk => (m_up2_ne (by have := (ho k (by omega)).2; unfold scI; omega)).trans (ih (by omega))
    have hI1 : Iv (c + 1) (m_up2 (klC I o (vm I)) 1 4 (nI 1)) := Iv_same hI (by omega) (fun a b h => (m_up2_ne (by unfold usd at h; omega)).trans (key a b (by unfold usd at h; omega) _ (Nat.le_refl _)))
    refine Okc_go (some (.int (nI (vm I)))) hm hC (fun lg d hd => k_lock (by omega) hM ho hlo) (fun a b h => (m_up2_ne (by omega)).trans (key a b (by omega) _ (Nat.le_refl _))) hI1 (fun J J' hJ hC' hgw hne hz => ?_)
    obtain ⟨J3, hJ3⟩ : ∃ J3, J3 = m_up2 J' 143 2 (nI 1) := ⟨_, rfl⟩
    have hC3 : Cr (m_up2 I 1 4 (nI 1)) J3 := by rw [hJ3]; exact Cr_up hm hC' (a := 143) (b := 2) (by unfold lvR; omega) rfl (by decide) (by decide)
    have e3 : vm (m_up2 I 1 4 (nI 1)) = vm I := congrArg vN (m_up2_ne (by decide))
    have hC4 := Cr_kl (by rw [e3]; exact hm) hC3 (vm I) (fun j hj => (ho j hj).2)
    rw [← klC_up] at hC4
    refine ⟨klR J3 o (vm I), fun lg d hd => ?_, hC4, fun a b h => (klR_ne (by omega)).trans (by rw [hJ3]; exact m_up2_ne (by omega)), (klR_ne (by decide)).trans (by rw [hJ3]; exact m_up2_ne (by decide))⟩
    have hlk : J 143 2 = 0 := hJ.lk.trans hlo
    have hmk : ∀ k, klR J3 o k 143 3 = nI (vm I) := fun k => (klR_ne (by decide)).trans (by rw [hJ3, m_up2_ne (by decide)]; exact hC'.m.trans hM.1)
    have loop : ∀ (q k : Nat), k ≤ (vm I) → (vm I) - k < q → m_W S (M_X11_lock, d, fun w9 g9 => w9 = some (.int (nI (vm I))) ∧ g9 = hh (klR J3 o (vm I)) lg, fun _ _ => False) 28 [some (.ref 143), some (.int (nI k))] [] (hh (klR J3 o k) lg) 0 0 := by
      intro q
      induction q with
      | zero => intro k  _ h; omega
      | succ q ih =>
        intro k  hk hq
        have hmk' := hmk k
        refine ms_iload_n dX11_lock_28 rfl ?_
        refine ms_aload_n dX11_lock_29 rfl ?_
        refine q_geti dX11_lock_30 fX11_114 (by rw [kd_11_3]; decide) (by first | decide | exact lt_sc (by omega) | exact lt_dy (by omega) | exact lt_rw (by omega) | exact lt_wa (by omega) | exact lt_le (by omega)) (by first | rfl | rw [sh_sc (by omega)] | rw [sh_dy (by omega)]) hmk' ?_
        refine n_icmp_ge (tgt := 56) dX11_lock_33 (by decide) (by omega) (by omega) (fun c33 => ?_) (fun c33 => ?_)
        · obtain rfl : k = vm I := by omega
          refine ms_aload_n dX11_lock_56 rfl ?_
          refine q_geti dX11_lock_57 fX11_114 (by rw [kd_11_3]; decide) (by first | decide | exact lt_sc (by omega) | exact lt_dy (by omega) | exact lt_rw (by omega) | exact lt_wa (by omega) | exact lt_le (by omega)) (by first | rfl | rw [sh_sc (by omega)] | rw [sh_dy (by omega)]) hmk' ?_
          refine ms_iret dX11_lock_60 rfl rfl ⟨?_, ?_⟩
          · rfl
          · rfl
        · obtain ⟨o1, o2⟩ := ho k (by omega)
          have o3 : klR J3 o k 144 k = nI (o k) := (klR_ne (by decide)).trans (by rw [hJ3, m_up2_ne (by omega), hC'.st (by omega)]; exact o1)
          refine ms_aload_n dX11_lock_36 rfl ?_
          refine q_getr dX11_lock_37 fX11_13 kd_11_5 (by first | decide | exact lt_sc (by omega) | exact lt_dy (by omega) | exact lt_rw (by omega) | exact lt_wa (by omega) | exact lt_le (by omega)) (by first | rfl | rw [sh_sc (by omega)] | rw [sh_dy (by omega)]) (by first | rfl | exact rf_wa (by omega) | exact rf_le (by omega) | exact rf_rw (by omega)) ?_
          refine ms_aload_n dX11_lock_40 rfl ?_
          refine q_getr dX11_lock_41 fX11_7 kd_11_4 (by first | decide | exact lt_sc (by omega) | exact lt_dy (by omega) | exact lt_rw (by omega) | exact lt_wa (by omega) | exact lt_le (by omega)) (by first | rfl | rw [sh_sc (by omega)] | rw [sh_dy (by omega)]) (by first | rfl | exact rf_wa (by omega) | exact rf_le (by omega) | exact rf_rw (by omega)) ?_
          refine ms_iload_n dX11_lock_44 rfl ?_
          refine q_iald dX11_lock_45 (by first | decide | exact lt_sc (by omega) | exact lt_dy (by omega) | exact lt_rw (by omega) | exact lt_wa (by omega) | exact lt_le (by omega)) (by first | rfl | exact sh_rw (by omega) | exact sh_wa (by omega) | exact sh_le (by omega)) (by omega) (by decide) o3 ?_
          refine ms_iload_n dX11_lock_46 rfl ?_
          refine ms_iconst (v := nI 1) dX11_lock_47 (by decide) ?_
          refine n_iadd dX11_lock_48 ?_
          refine q_iast dX11_lock_49 (by first | decide | exact lt_sc (by omega) | exact lt_dy (by omega) | exact lt_rw (by omega) | exact lt_wa (by omega) | exact lt_le (by omega)) (by first | rfl | exact sh_rw (by omega) | exact sh_wa (by omega) | exact sh_le (by omega)) (by omega) (by decide) ?_
          refine n_iinc dX11_lock_50 rfl ?_
          refine ms_goto (tgt := 28) dX11_lock_53 (by decide) ?_
          exact ih (k + 1) (by omega) (by omega)
    refine ms_aload_n dX11_lock_0 rfl ?_
    refine ms_aload_n dX11_lock_1 rfl ?_
    refine q_geti dX11_lock_2 fX11_141 (by rw [kd_11_2]; decide) (by first | decide | exact lt_sc (by omega) | exact lt_dy (by omega) | exact lt_rw (by omega) | exact lt_wa (by omega) | exact lt_le (by omega)) (by first | rfl | rw [sh_sc (by omega)] | rw [sh_dy (by omega)]) hlk ?_
    refine ms_if_eq (tgt := 12) dX11_lock_5 (by decide) (fun c5 => ?_) (fun c5 => absurd c5 (by decide))
    refine ms_iconst (v := nI 0) dX11_lock_12 (by decide) ?_
    refine qRV1 dX11_lock_13 kX11_138 (by show _ < 178; first | decide | exact lt_sc (by omega) | exact lt_dy (by omega)) (by show (sh0 _).1 = _; first | rfl | rw [sh_sc (by omega)] | rw [sh_dy (by omega)]) (d := d - 1) (by show d - 1 + 1 ≤ d; omega) rfl (Nat.le_of_ble_eq_true rfl) (Nat.le_of_ble_eq_true rfl) (hgw _ _) rfl ?_
    refine ms_if_ne (tgt := 21) dX11_lock_16 (by decide) (fun c16 => ?_) (fun c16 => absurd c16 (by decide))
    refine ms_aload_n dX11_lock_21 rfl ?_
    refine ms_iconst (v := nI 1) dX11_lock_22 (by decide) ?_
    refine q_putz dX11_lock_23 fX11_141 pX11_11_2 kd_11_2 (by first | decide | exact lt_sc (by omega) | exact lt_dy (by omega) | exact lt_rw (by omega) | exact lt_wa (by omega) | exact lt_le (by omega)) (by first | rfl | rw [sh_sc (by omega)] | rw [sh_dy (by omega)]) (by first | exact Or.inl (by decide) | exact Or.inr (by decide) | assumption | exact bi_01 _) ?_
    refine ms_iconst (v := nI 0) dX11_lock_26 (by decide) ?_
    refine ms_istore_n dX11_lock_27 (Nat.le_of_ble_eq_true rfl) ?_
    rw [← hJ3]
    exact loop (vm I + 1) 0 (by omega) (by omega)
  · refine Okc_thr (k := 0) (E := xS) (b := some (.int (nI 0))) hI hC rfl (fun lg d hd => k_lockT (by omega) hlo) (fun lg d hd => ?_)
    have hlk : I 143 2 = I 1 4 := hC.lk
    refine ms_aload_n dX11_lock_0 rfl ?_
    refine ms_aload_n dX11_lock_1 rfl ?_
    refine q_geti dX11_lock_2 fX11_141 (by rw [kd_11_2]; decide) (by first | decide | exact lt_sc (by omega) | exact lt_dy (by omega) | exact lt_rw (by omega) | exact lt_wa (by omega) | exact lt_le (by omega)) (by first | rfl | rw [sh_sc (by omega)] | rw [sh_dy (by omega)]) hlk ?_
    refine ms_if_eq (tgt := 12) dX11_lock_5 (by decide) (fun c5 => absurd c5 (fun z => hlo z)) (fun c5 => ?_)
    refine ms_iconst (v := nI 1) dX11_lock_8 (by decide) ?_
    refine ms_goto (tgt := 13) dX11_lock_9 (by decide) ?_
    refine qRV1 dX11_lock_13 kX11_138 (by show _ < 178; first | decide | exact lt_sc (by omega) | exact lt_dy (by omega)) (by show (sh0 _).1 = _; first | rfl | rw [sh_sc (by omega)] | rw [sh_dy (by omega)]) (d := d - 1) (by show d - 1 + 1 ≤ d; omega) rfl (Nat.le_of_ble_eq_true rfl) (Nat.le_of_ble_eq_true rfl) (kr_gwk 0 (by decide)) rfl ?_
    refine ms_if_ne (tgt := 21) dX11_lock_16 (by decide) (fun c16 => absurd c16 (by decide)) (fun c16 => ?_)
    refine ms_iconst (v := nI 0) dX11_lock_19 (by decide) ?_
    refine ms_iret dX11_lock_20 rfl rfl ⟨?_, ?_⟩
    · rfl
    · rfl
theorem pc_up {x : Int32} {a b : Nat} (hab : a ≤ b) (hb : b ≤ 32) (h : ∀ i, a ≤ i → i < 32 → bt x i = false) : pc x a = pc x b := by
  have e := fb_ct_split (fun i => bt x i) a (b - a)
  have e2 : fb_ct (fun k => bt x (a + k)) (b - a) = 0 := fb_ct_zero.mpr (fun k hk => h _ (by omega) (by omega))
  rw [e2, Nat.add_zero, show a + (b - a) = b by omega] at e
  exact e.symm
theorem sh_pow : ∀ n : Fin 9, nI 1 <<< (nI n.val &&& 31) - nI 1 = nI (2 ^ n.val - 1) := by decide +kernel
theorem pp_bits {x : Int32} {n : Nat} (hn : n ≤ 8) (h : nI 0 ≤ x ∧ x ≤ nI 1 <<< (nI n &&& 31) - nI 1) : ∀ i, n ≤ i → i < 32 → bt x i = false := by
  intro i hi hi2
  rw [sh_pow ⟨n, by omega⟩] at h
  have hp : 2 ^ n ≤ 2 ^ 8 := Nat.pow_le_pow_right (by decide) hn
  have hp1 : 0 < 2 ^ n := Nat.two_pow_pos n
  have h0 : ¬ x < 0 := Int32.not_lt.mpr h.1
  obtain ⟨j, hj, rfl⟩ := nI_of h0
  have hj2 : j ≤ 2 ^ n - 1 := (nI_leI hj (by omega)).mp h.2
  rw [b_nI j i hi2]
  exact Nat.testBit_lt_two_pow (Nat.lt_of_lt_of_le (by omega : j < 2 ^ n) (Nat.pow_le_pow_right (by decide) hi))
theorem o_needs {S : m_S} {c : Nat} {I : m_I} (x y : Int32) (hI : Iv c I) (hC : Cr I I) : Okc S c I M_X10_needs M_X11_needs [.ref 0, .int x, .int y] [.ref 143, .int x, .int y] [xI, xA] := by
  have hm := hI.1.1
  have hM := Iv_Md hI
  have hP := Iv_Pn hI
  rcases ix_or x (n := vm I) (by omega) with ⟨s, hs, rfl⟩ | hx
  · have hs20 : s < 20 := by omega
    by_cases hy : nI 0 ≤ y ∧ y ≤ nI 1 <<< (I 65 4 &&& 31) - nI 1
    · have hb : ∀ i, vpn I ≤ i → i < 32 → bt y i = false := pp_bits hP.2 (by rw [← hP.1]; exact hy)
      obtain ⟨h1, h2, h3, h4, h5, h6, h7, h8, h9, h10, h11, h12⟩ := id hI
      have hf : ∀ a b, ¬ (a = scI s ∧ b = 4) → m_up2 I (scI s) 4 y a b = I a b := fun a b h => m_up2_ne h
      have hI1 : Iv (c + 1) (m_up2 I (scI s) 4 y) := by
        have q : ∀ u b, b ≠ 4 → m_up2 I (scI s) 4 y (scI u) b = I (scI u) b := fun u b hb => m_up2_ne (by omega)
        refine ⟨Vw_cong h1 (hf _ _ (by unfold scI; omega)) (fun t ht => ⟨hf _ _ (by unfold dyI scI; omega), fun j => hf _ _ (by unfold rwI scI; omega)⟩) (fun u hu => ⟨q u 0 (by decide), q u 15 (by decide)⟩), i2_c h2 (hf _ _ (by unfold scI; omega)) (hf _ _ (by unfold scI; omega)) (hf _ _ (by unfold scI; omega)), ?_, i4_c hm h4 (hf _ _ (by unfold scI; omega)) (hf _ _ (by unfold scI; omega)) (fun u hu => q u 0 (by decide)), i5_c h5 (hf _ _ (by unfold scI; omega)) (fun k => hf _ _ (by unfold scI; omega)), i6_c h6 (fun u hu => ⟨q u 7 (by decide), q u 3 (by decide), q u 14 (by decide)⟩), i7_c h7 (hf _ _ (by unfold scI; omega)) (fun u hu _ => ⟨q u 7 (by decide), q u 15 (by decide), q u 12 (by decide), q u 11 (by decide), fun t _ => ⟨hf _ _ (by unfold waI scI; omega), hf _ _ (by unfold leI scI; omega)⟩⟩), i8_c h8 (hf _ _ (by unfold scI; omega)) (fun u hu => q u 5 (by decide)), i9_c hm h9 (hf _ _ (by unfold scI; omega)) (fun u hu => ⟨q u 11 (by decide), q u 15 (by decide)⟩), i10_c h10 (hf _ _ (by unfold scI; omega)) (fun t ht => hf _ _ (by unfold dyI scI; omega)), i11_c h11 (fun t ht => hf _ _ (by unfold dyI scI; omega)) (fun k _ => hf _ _ (by unfold scI; omega)), i12_c h12 (by omega) (hf _ _ (by unfold scI; omega)) (hf _ _ (by unfold scI; omega))⟩
        intro u hu b hb2 hb3
        have e : vpn (m_up2 I (scI s) 4 y) = vpn I := congrArg vN (hf _ _ (by unfold scI; omega))
        rw [e] at hb2
        by_cases z : u = s
        · rw [z, m_up2_eq]
          exact hb b hb2 hb3
        · rw [hf _ _ (by unfold scI; omega)]
          exact h3 u hu b hb2 hb3
      refine Okc_go (some (.int (nI (pc y (vpn I))))) hm hC (fun lg d hd => k_needs (by omega) hM hs hP hy.1 hy.2 hb) (fun a b h => hf _ _ (by unfold scI; omega)) hI1 (fun J J' hJ hC' hgw hne hz => ?_)
      have hC3 : Cr (m_up2 I (scI s) 4 y) (m_up2 J' 151 s y) := Cr_up hm hC' (a := 151) (b := s) (by unfold lvR; omega) rfl (by unfold scI; omega) (by unfold scI; omega)
      refine ⟨m_up2 J' 151 s y, fun lg d hd => ?_, hC3, fQ_up (by decide), m_up2_ne (by omega)⟩
      have hsc := kr_sc1 (S := S) (J := J) (lg := lg) (d := d - 1) (by omega) (hJ.m.trans hM.1) hm hs
      have hpn := hJ.pn
      rw [pc_up (b := 30) (by have := hP.2; omega) (by decide) hb]
      refine ms_aload_n dX11_needs_0 rfl ?_
      refine ms_iload_n dX11_needs_1 rfl ?_
      refine qRV1 dX11_needs_2 kX11_131 (by show _ < 178; first | decide | exact lt_sc (by omega) | exact lt_dy (by omega)) (by show (sh0 _).1 = _; first | rfl | rw [sh_sc (by omega)] | rw [sh_dy (by omega)]) (d := d - 1) (by show d - 1 + 1 ≤ d; omega) rfl (Nat.le_of_ble_eq_true rfl) (Nat.le_of_ble_eq_true rfl) (hsc) rfl ?_
      refine ms_istore_n dX11_needs_5 (Nat.le_of_ble_eq_true rfl) ?_
      refine ms_aload_n dX11_needs_6 rfl ?_
      refine ms_iload_n dX11_needs_7 rfl ?_
      refine ms_if_ne (tgt := 15) dX11_needs_8 (by decide) (fun c8 => ?_) (fun c8 => absurd c8 (by decide))
      refine ms_iload_n dX11_needs_15 rfl ?_
      refine ms_iconst (v := nI 0) dX11_needs_16 (by decide) ?_
      refine ms_iconst (v := nI 1) dX11_needs_17 (by decide) ?_
      refine ms_aload_n dX11_needs_18 rfl ?_
      refine q_geti dX11_needs_19 fX11_121 (by rw [kd_11_22]; decide) (by first | decide | exact lt_sc (by omega) | exact lt_dy (by omega) | exact lt_rw (by omega) | exact lt_wa (by omega) | exact lt_le (by omega)) (by first | rfl | rw [sh_sc (by omega)] | rw [sh_dy (by omega)]) hpn ?_
      refine ms_ishl dX11_needs_22 ?_
      refine ms_iconst (v := nI 1) dX11_needs_23 (by decide) ?_
      refine ms_isub dX11_needs_24 ?_
      refine qRS3 dX11_needs_25 kX11_117 (d := d - 1) (by show d - 1 + 1 ≤ d; omega) rfl rfl rfl (Nat.le_of_ble_eq_true rfl) (Nat.le_of_ble_eq_true rfl) (kr_in1 hy) rfl ?_
      refine ms_if_eq (tgt := 35) dX11_needs_28 (by decide) (fun c28 => absurd c28 (by decide)) (fun c28 => ?_)
      refine ms_iconst (v := nI 0) dX11_needs_31 (by decide) ?_
      refine ms_goto (tgt := 36) dX11_needs_32 (by decide) ?_
      refine qRV1 dX11_needs_36 kX11_138 (by show _ < 178; first | decide | exact lt_sc (by omega) | exact lt_dy (by omega)) (by show (sh0 _).1 = _; first | rfl | rw [sh_sc (by omega)] | rw [sh_dy (by omega)]) (d := d - 1) (by show d - 1 + 1 ≤ d; omega) rfl (Nat.le_of_ble_eq_true rfl) (Nat.le_of_ble_eq_true rfl) (hgw _ _) rfl ?_
      refine ms_if_ne (tgt := 44) dX11_needs_39 (by decide) (fun c39 => ?_) (fun c39 => absurd c39 (by decide))
      refine ms_aload_n dX11_needs_44 rfl ?_
      refine q_getr dX11_needs_45 fX11_32 kd_11_11 (by first | decide | exact lt_sc (by omega) | exact lt_dy (by omega) | exact lt_rw (by omega) | exact lt_wa (by omega) | exact lt_le (by omega)) (by first | rfl | rw [sh_sc (by omega)] | rw [sh_dy (by omega)]) (by first | rfl | exact rf_wa (by omega) | exact rf_le (by omega) | exact rf_rw (by omega)) ?_
      refine ms_iload_n dX11_needs_48 rfl ?_
      refine ms_iload_n dX11_needs_49 rfl ?_
      refine q_iast dX11_needs_50 (by first | decide | exact lt_sc (by omega) | exact lt_dy (by omega) | exact lt_rw (by omega) | exact lt_wa (by omega) | exact lt_le (by omega)) (by first | rfl | exact sh_rw (by omega) | exact sh_wa (by omega) | exact sh_le (by omega)) (by omega) (by decide) ?_
      refine ms_iload_n dX11_needs_51 rfl ?_
      refine qRS1 dX11_needs_52 kX11_151 (d := d - 1) (by show d - 1 + 1 ≤ d; omega) rfl (Nat.le_of_ble_eq_true rfl) (Nat.le_of_ble_eq_true rfl) (kr_size) rfl ?_
      refine ms_iret dX11_needs_55 rfl rfl ⟨?_, ?_⟩
      · rfl
      · rfl
    · refine Okc_thr (k := 1) (E := xA) (b := some (.int (nI 0))) hI hC rfl (fun lg d hd => k_needsT2 (by omega) hM hs hy) (fun lg d hd => ?_)
      have hsc := kr_sc1 (S := S) (J := I) (lg := lg) (d := d - 1) (by omega) (hC.m.trans hM.1) hm hs
      have hpn := hC.pn
      refine ms_aload_n dX11_needs_0 rfl ?_
      refine ms_iload_n dX11_needs_1 rfl ?_
      refine qRV1 dX11_needs_2 kX11_131 (by show _ < 178; first | decide | exact lt_sc (by omega) | exact lt_dy (by omega)) (by show (sh0 _).1 = _; first | rfl | rw [sh_sc (by omega)] | rw [sh_dy (by omega)]) (d := d - 1) (by show d - 1 + 1 ≤ d; omega) rfl (Nat.le_of_ble_eq_true rfl) (Nat.le_of_ble_eq_true rfl) (hsc) rfl ?_
      refine ms_istore_n dX11_needs_5 (Nat.le_of_ble_eq_true rfl) ?_
      refine ms_aload_n dX11_needs_6 rfl ?_
      refine ms_iload_n dX11_needs_7 rfl ?_
      refine ms_if_ne (tgt := 15) dX11_needs_8 (by decide) (fun c8 => ?_) (fun c8 => absurd c8 (by decide))
      refine ms_iload_n dX11_needs_15 rfl ?_
      refine ms_iconst (v := nI 0) dX11_needs_16 (by decide) ?_
      refine ms_iconst (v := nI 1) dX11_needs_17 (by decide) ?_
      refine ms_aload_n dX11_needs_18 rfl ?_
      refine q_geti dX11_needs_19 fX11_121 (by rw [kd_11_22]; decide) (by first | decide | exact lt_sc (by omega) | exact lt_dy (by omega) | exact lt_rw (by omega) | exact lt_wa (by omega) | exact lt_le (by omega)) (by first | rfl | rw [sh_sc (by omega)] | rw [sh_dy (by omega)]) hpn ?_
      refine ms_ishl dX11_needs_22 ?_
      refine ms_iconst (v := nI 1) dX11_needs_23 (by decide) ?_
      refine ms_isub dX11_needs_24 ?_
      refine qRS3 dX11_needs_25 kX11_117 (d := d - 1) (by show d - 1 + 1 ≤ d; omega) rfl rfl rfl (Nat.le_of_ble_eq_true rfl) (Nat.le_of_ble_eq_true rfl) (kr_in0 hy) rfl ?_
      refine ms_if_eq (tgt := 35) dX11_needs_28 (by decide) (fun c28 => ?_) (fun c28 => absurd c28 (by decide))
      refine ms_iconst (v := nI 2) dX11_needs_35 (by decide) ?_
      refine qRV1 dX11_needs_36 kX11_138 (by show _ < 178; first | decide | exact lt_sc (by omega) | exact lt_dy (by omega)) (by show (sh0 _).1 = _; first | rfl | rw [sh_sc (by omega)] | rw [sh_dy (by omega)]) (d := d - 1) (by show d - 1 + 1 ≤ d; omega) rfl (Nat.le_of_ble_eq_true rfl) (Nat.le_of_ble_eq_true rfl) (kr_gwk 1 (by decide)) rfl ?_
      refine ms_if_ne (tgt := 44) dX11_needs_39 (by decide) (fun c39 => absurd c39 (by decide)) (fun c39 => ?_)
      refine ms_iconst (v := nI 0) dX11_needs_42 (by decide) ?_
      refine ms_iret dX11_needs_43 rfl rfl ⟨?_, ?_⟩
      · rfl
      · rfl
  · refine Okc_thr (k := 0) (E := xI) (b := some (.int (nI 0))) hI hC rfl (fun lg d hd => k_needsT1 (by omega) hM hx) (fun lg d hd => ?_)
    have hsc := kr_sc0 (S := S) (J := I) (lg := lg) (d := d - 1) (by omega) (hC.m.trans hM.1) hm hx
    refine ms_aload_n dX11_needs_0 rfl ?_
    refine ms_iload_n dX11_needs_1 rfl ?_
    refine qRV1 dX11_needs_2 kX11_131 (by show _ < 178; first | decide | exact lt_sc (by omega) | exact lt_dy (by omega)) (by show (sh0 _).1 = _; first | rfl | rw [sh_sc (by omega)] | rw [sh_dy (by omega)]) (d := d - 1) (by show d - 1 + 1 ≤ d; omega) rfl (Nat.le_of_ble_eq_true rfl) (Nat.le_of_ble_eq_true rfl) (hsc) rfl ?_
    refine ms_istore_n dX11_needs_5 (Nat.le_of_ble_eq_true rfl) ?_
    refine ms_aload_n dX11_needs_6 rfl ?_
    refine ms_iload_n dX11_needs_7 rfl ?_
    refine ms_if_ne (tgt := 15) dX11_needs_8 (by decide) (fun c8 => absurd c8 (by decide)) (fun c8 => ?_)
    refine ms_iconst (v := nI 1) dX11_needs_11 (by decide) ?_
    refine ms_goto (tgt := 36) dX11_needs_12 (by decide) ?_
    refine qRV1 dX11_needs_36 kX11_138 (by show _ < 178; first | decide | exact lt_sc (by omega) | exact lt_dy (by omega)) (by show (sh0 _).1 = _; first | rfl | rw [sh_sc (by omega)] | rw [sh_dy (by omega)]) (d := d - 1) (by show d - 1 + 1 ≤ d; omega) rfl (Nat.le_of_ble_eq_true rfl) (Nat.le_of_ble_eq_true rfl) (kr_gwk 0 (by decide)) rfl ?_
    refine ms_if_ne (tgt := 44) dX11_needs_39 (by decide) (fun c39 => absurd c39 (by decide)) (fun c39 => ?_)
    refine ms_iconst (v := nI 0) dX11_needs_42 (by decide) ?_
    refine ms_iret dX11_needs_43 rfl rfl ⟨?_, ?_⟩
    · rfl
    · rfl

