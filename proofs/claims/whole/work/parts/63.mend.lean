-- NAME mend
theorem k_takeIll {S : m_S} {I : m_I} {lg : Int64} {d t : Nat} (hd : 4 ≤ d) (h : Vw I) (ht : t < 30) : m_R S M_X4_takeIllOnes d [.ref 140, .int (nI t)] (hh I lg) (some (.int (nI (tkA I t (vn I t)).2))) (hh (tkB (tkA I t (vn I t)).1 t (tkA I t (vn I t)).2) lg) := by
  have hm := h.1
  have hn8 := h.2.1 t ht
  obtain ⟨J, hJ⟩ : ∃ J, J = (tkA I t (vn I t)).1 := ⟨_, rfl⟩
  obtain ⟨c, hc⟩ : ∃ c, c = (tkA I t (vn I t)).2 := ⟨_, rfl⟩
  have hc8 : c ≤ 8 := by have := tkA_le (I := I) (t := t) (vn I t); omega
  obtain ⟨hin, hdis⟩ := tkA_in h ht (vn I t) (Nat.le_refl _)
  rw [← hJ, ← hc] at hin hdis
  rw [← hJ, ← hc]
  have hJne : ∀ a b, a ≠ 141 → J a b = I a b := fun a b ha => by rw [hJ]; exact tkA_ne ha _
  have hVJ : Vw J := Vw_cong h (hJne _ _ (by decide)) (fun t ht => ⟨hJne _ _ (by unfold dyI; omega), fun j => hJne _ _ (by unfold rwI; omega)⟩) (fun s hs => ⟨hJne _ _ (by unfold scI; omega), hJne _ _ (by unfold scI; omega)⟩)
  have hvmJ : vm J = vm I := congrArg vN (hJne _ _ (by decide))
  have hcJ : ∀ i, i < c → vN (J 141 i) < vm J ∧ J (scI (vN (J 141 i))) 15 = nI t := fun i hi => by
    obtain ⟨j, hj, e⟩ := hin i hi
    obtain ⟨q1, q2⟩ := h.2.2.1 t j ht hj
    rw [e, vN_nI (by omega), hvmJ]
    exact ⟨q1, (hJne _ _ (by unfold scI; omega)).trans q2⟩
  have loop2 : ∀ (q k : Nat) (d5 : Option Value), k ≤ c → c - k < q → m_W S (M_X4_takeIllOnes, d, fun w9 g => w9 = some (.int (nI c)) ∧ g = hh (tkB J t c) lg, fun _ _ => False) 87 [some (.ref 140), some (.int (nI t)), some (.ref (dyI t)), some (.int (nI c)), some (.int (nI k)), d5] [] (hh (tkB J t k) lg) 0 0 := by
    intro q
    induction q with
    | zero => exact fun k d5 _ hq => absurd hq (Nat.not_lt_zero _)
    | succ q ih =>
      intro k d5 hk hq
      obtain ⟨b1, b2, b3, b4⟩ := tkB_ok hVJ ht hcJ hdis k hk
      refine ms_iload dX4_takeIllOnes_87 rfl ?_
      refine ms_iload_n dX4_takeIllOnes_89 rfl ?_
      refine n_icmp_ge (tgt := 113) dX4_takeIllOnes_90 (by decide) (by omega) (by omega) (fun c90 => ?_) (fun c90 => ?_)
      · obtain rfl : k = c := by omega
        refine ms_iload_n dX4_takeIllOnes_113 rfl ?_
        refine ms_iret dX4_takeIllOnes_114 rfl rfl ⟨?_, ?_⟩
        · rfl
        · rfl
      · have hkc : k < c := by omega
        obtain ⟨j, hj, he⟩ := on_row (s := vN (J 141 k)) b1 (by rw [b4]; exact (hcJ k hkc).1) ht (b2 k (Nat.le_refl _) hkc)
        obtain ⟨g1, g2⟩ := at1_ok hj he
        have hv : tkB J t k 141 k = nI (vN (J 141 k)) := (tkB_ne (by unfold rwI; omega) (by unfold dyI; omega) (fun s => by unfold scI; omega) k).trans (nI_vN _).symm
        have hta : m_R S M_X0_takeOff (d - 1) [.ref 72, .int (nI (vN (J 141 k)))] (hh (tkB J t k) lg) none (hh (tkB J t (k + 1)) lg) := k_takeV (by omega) b1 ht g1 g2
        have h9 := fun d5 => ih (k + 1) d5 (by omega) (by omega)
        refine ms_aload_n dX4_takeIllOnes_93 rfl ?_
        refine q_getr dX4_takeIllOnes_94 fX4_19 kd_4_1 (by first | decide | exact lt_sc (by omega) | exact lt_dy (by omega) | exact lt_rw (by omega) | exact lt_wa (by omega) | exact lt_le (by omega)) (by first | rfl | rw [sh_sc (by omega)] | rw [sh_dy (by omega)]) (by first | rfl | exact rf_wa (by omega) | exact rf_le (by omega) | exact rf_rw (by omega)) ?_
        refine ms_aload_n dX4_takeIllOnes_97 rfl ?_
        refine q_getr dX4_takeIllOnes_98 fX4_9 kd_4_2 (by first | decide | exact lt_sc (by omega) | exact lt_dy (by omega) | exact lt_rw (by omega) | exact lt_wa (by omega) | exact lt_le (by omega)) (by first | rfl | rw [sh_sc (by omega)] | rw [sh_dy (by omega)]) (by first | rfl | exact rf_wa (by omega) | exact rf_le (by omega) | exact rf_rw (by omega)) ?_
        refine ms_iload dX4_takeIllOnes_101 rfl ?_
        refine q_iald dX4_takeIllOnes_103 (by first | decide | exact lt_sc (by omega) | exact lt_dy (by omega) | exact lt_rw (by omega) | exact lt_wa (by omega) | exact lt_le (by omega)) (by first | rfl | exact sh_rw (by omega) | exact sh_wa (by omega) | exact sh_le (by omega)) (by omega) (by decide) hv ?_
        refine qRV1 dX4_takeIllOnes_104 kX4_56 (by show _ < 178; first | decide | exact lt_sc (by omega) | exact lt_dy (by omega)) (by show (sh0 _).1 = _; first | rfl | rw [sh_sc (by omega)] | rw [sh_dy (by omega)]) (d := d - 1) (by show d - 1 + 1 ≤ d; omega) rfl (Nat.le_of_ble_eq_true rfl) (Nat.le_of_ble_eq_true rfl) (hta) rfl ?_
        refine n_iinc dX4_takeIllOnes_107 rfl ?_
        refine ms_goto (tgt := 87) dX4_takeIllOnes_110 (by decide) ?_
        exact h9 _
  have loop1 : ∀ (q k : Nat) (d5 : Option Value), k ≤ vn I t → vn I t - k < q → m_W S (M_X4_takeIllOnes, d, fun w9 g => w9 = some (.int (nI c)) ∧ g = hh (tkB J t c) lg, fun _ _ => False) 15 [some (.ref 140), some (.int (nI t)), some (.ref (dyI t)), some (.int (nI (tkA I t k).2)), some (.int (nI k)), d5] [] (hh (tkA I t k).1 lg) 0 0 := by
    intro q
    induction q with
    | zero => exact fun k d5 _ hq => absurd hq (Nat.not_lt_zero _)
    | succ q ih =>
      intro k d5 hk hq
      have hne : ∀ a b, a ≠ 141 → (tkA I t k).1 a b = I a b := fun a b ha => tkA_ne ha _
      have hcn : (tkA I t k).1 (dyI t) 6 = nI (vn I t) := (hne _ _ (by unfold dyI; omega)).trans (nI_vN _).symm
      refine ms_iload dX4_takeIllOnes_15 rfl ?_
      refine ms_aload_n dX4_takeIllOnes_17 rfl ?_
      refine q_geti dX4_takeIllOnes_18 fX4_29 (by rw [kd_3_6]; decide) (by first | decide | exact lt_sc (by omega) | exact lt_dy (by omega) | exact lt_rw (by omega) | exact lt_wa (by omega) | exact lt_le (by omega)) (by first | rfl | rw [sh_sc (by omega)] | rw [sh_dy (by omega)]) hcn ?_
      refine n_icmp_ge (tgt := 84) dX4_takeIllOnes_21 (by decide) (by omega) (by omega) (fun c21 => ?_) (fun c21 => ?_)
      · obtain rfl : k = vn I t := by omega
        rw [← hJ, ← hc]
        refine ms_iconst (v := nI 0) dX4_takeIllOnes_84 (by decide) ?_
        refine ms_istore dX4_takeIllOnes_85 (Nat.le_of_ble_eq_true rfl) ?_
        exact loop2 (c + 1) 0 _ (by omega) (by omega)
      · have hkn : k < vn I t := by omega
        obtain ⟨s, hs⟩ : ∃ s, s = vw I t k := ⟨_, rfl⟩
        have hs20 : s < 20 := by have := (h.2.2.1 t k ht hkn).1; omega
        have hrow : (tkA I t k).1 (rwI t) k = nI s := by rw [hs]; exact (hne _ _ (by unfold rwI; omega)).trans (nI_vN _).symm
        have hle := tkA_le (I := I) (t := t) k
        have hsh : (tkA I t k).1 (scI s) 12 = I (scI s) 12 := hne _ _ (by unfold scI; omega)
        have hpe : (tkA I t k).1 (scI s) 4 = I (scI s) 4 := hne _ _ (by unfold scI; omega)
        have hil : (tkA I t k).1 (dyI t) 3 = I (dyI t) 3 := hne _ _ (by unfold dyI; omega)
        have h9 := fun d5 => ih (k + 1) d5 (by omega) (by omega)
        refine ms_aload_n dX4_takeIllOnes_24 rfl ?_
        refine q_getr dX4_takeIllOnes_25 fX4_15 kd_4_0 (by first | decide | exact lt_sc (by omega) | exact lt_dy (by omega) | exact lt_rw (by omega) | exact lt_wa (by omega) | exact lt_le (by omega)) (by first | rfl | rw [sh_sc (by omega)] | rw [sh_dy (by omega)]) (by first | rfl | exact rf_wa (by omega) | exact rf_le (by omega) | exact rf_rw (by omega)) ?_
        refine q_getr dX4_takeIllOnes_28 fX4_35 kd_9_0 (by first | decide | exact lt_sc (by omega) | exact lt_dy (by omega) | exact lt_rw (by omega) | exact lt_wa (by omega) | exact lt_le (by omega)) (by first | rfl | rw [sh_sc (by omega)] | rw [sh_dy (by omega)]) (by first | rfl | exact rf_wa (by omega) | exact rf_le (by omega) | exact rf_rw (by omega)) ?_
        refine ms_aload_n dX4_takeIllOnes_31 rfl ?_
        refine q_getr dX4_takeIllOnes_32 fX4_41 kd_3_5 (by first | decide | exact lt_sc (by omega) | exact lt_dy (by omega) | exact lt_rw (by omega) | exact lt_wa (by omega) | exact lt_le (by omega)) (by first | rfl | rw [sh_sc (by omega)] | rw [sh_dy (by omega)]) (by first | rfl | exact rf_wa (by omega) | exact rf_le (by omega) | exact rf_rw (by omega)) ?_
        refine ms_iload dX4_takeIllOnes_35 rfl ?_
        refine q_iald dX4_takeIllOnes_37 (by first | decide | exact lt_sc (by omega) | exact lt_dy (by omega) | exact lt_rw (by omega) | exact lt_wa (by omega) | exact lt_le (by omega)) (by first | rfl | exact sh_rw (by omega) | exact sh_wa (by omega) | exact sh_le (by omega)) (by omega) (by decide) hrow ?_
        refine q_aald dX4_takeIllOnes_38 (by first | exact Or.inl ⟨rfl, by omega, rfl⟩ | exact Or.inr ⟨rfl, by omega, rfl⟩) ?_
        refine ms_astore dX4_takeIllOnes_39 (Nat.le_of_ble_eq_true rfl) ?_
        refine ms_aload dX4_takeIllOnes_41 rfl ?_
        refine q_geti dX4_takeIllOnes_43 fX4_44 (by rw [kd_8_12]; decide) (by first | decide | exact lt_sc (by omega) | exact lt_dy (by omega) | exact lt_rw (by omega) | exact lt_wa (by omega) | exact lt_le (by omega)) (by first | rfl | rw [sh_sc (by omega)] | rw [sh_dy (by omega)]) hsh ?_
        refine ms_if_ne (tgt := 78) dX4_takeIllOnes_46 (by decide) (fun c46 => ?_) (fun c46 => ?_)
        · have e : ilB I t (vw I t k) = false := by rw [← hs]; unfold ilB; rw [decide_eq_false c46]; rfl
          rw [tkA_n e] at h9
          refine n_iinc dX4_takeIllOnes_78 rfl ?_
          refine ms_goto (tgt := 15) dX4_takeIllOnes_81 (by decide) ?_
          exact h9 _
        · refine ms_aload dX4_takeIllOnes_49 rfl ?_
          refine q_geti dX4_takeIllOnes_51 fX4_50 (by rw [kd_8_4]; decide) (by first | decide | exact lt_sc (by omega) | exact lt_dy (by omega) | exact lt_rw (by omega) | exact lt_wa (by omega) | exact lt_le (by omega)) (by first | rfl | rw [sh_sc (by omega)] | rw [sh_dy (by omega)]) hpe ?_
          refine ms_aload_n dX4_takeIllOnes_54 rfl ?_
          refine q_geti dX4_takeIllOnes_55 fX4_53 (by rw [kd_3_3]; decide) (by first | decide | exact lt_sc (by omega) | exact lt_dy (by omega) | exact lt_rw (by omega) | exact lt_wa (by omega) | exact lt_le (by omega)) (by first | rfl | rw [sh_sc (by omega)] | rw [sh_dy (by omega)]) hil ?_
          refine ms_iand dX4_takeIllOnes_58 ?_
          refine ms_if_eq (tgt := 78) dX4_takeIllOnes_59 (by decide) (fun c59 => ?_) (fun c59 => ?_)
          · have e : ilB I t (vw I t k) = false := by rw [← hs]; unfold ilB; rw [decide_eq_true c59, decide_eq_true c46]; rfl
            rw [tkA_n e] at h9
            refine n_iinc dX4_takeIllOnes_78 rfl ?_
            refine ms_goto (tgt := 15) dX4_takeIllOnes_81 (by decide) ?_
            exact h9 _
          · have e : ilB I t (vw I t k) = true := by rw [← hs]; unfold ilB; rw [decide_eq_false c59, decide_eq_true c46]; rfl
            rw [tkA_y e, ← hs] at h9
            refine ms_aload_n dX4_takeIllOnes_62 rfl ?_
            refine q_getr dX4_takeIllOnes_63 fX4_9 kd_4_2 (by first | decide | exact lt_sc (by omega) | exact lt_dy (by omega) | exact lt_rw (by omega) | exact lt_wa (by omega) | exact lt_le (by omega)) (by first | rfl | rw [sh_sc (by omega)] | rw [sh_dy (by omega)]) (by first | rfl | exact rf_wa (by omega) | exact rf_le (by omega) | exact rf_rw (by omega)) ?_
            refine ms_iload_n dX4_takeIllOnes_66 rfl ?_
            refine ms_aload_n dX4_takeIllOnes_67 rfl ?_
            refine q_getr dX4_takeIllOnes_68 fX4_41 kd_3_5 (by first | decide | exact lt_sc (by omega) | exact lt_dy (by omega) | exact lt_rw (by omega) | exact lt_wa (by omega) | exact lt_le (by omega)) (by first | rfl | rw [sh_sc (by omega)] | rw [sh_dy (by omega)]) (by first | rfl | exact rf_wa (by omega) | exact rf_le (by omega) | exact rf_rw (by omega)) ?_
            refine ms_iload dX4_takeIllOnes_71 rfl ?_
            refine q_iald dX4_takeIllOnes_73 (by first | decide | exact lt_sc (by omega) | exact lt_dy (by omega) | exact lt_rw (by omega) | exact lt_wa (by omega) | exact lt_le (by omega)) (by first | rfl | exact sh_rw (by omega) | exact sh_wa (by omega) | exact sh_le (by omega)) (by omega) (by decide) hrow ?_
            refine q_iast dX4_takeIllOnes_74 (by first | decide | exact lt_sc (by omega) | exact lt_dy (by omega) | exact lt_rw (by omega) | exact lt_wa (by omega) | exact lt_le (by omega)) (by first | rfl | exact sh_rw (by omega) | exact sh_wa (by omega) | exact sh_le (by omega)) (by omega) (by decide) ?_
            refine n_iinc dX4_takeIllOnes_75 rfl ?_
            refine n_iinc dX4_takeIllOnes_78 rfl ?_
            refine ms_goto (tgt := 15) dX4_takeIllOnes_81 (by decide) ?_
            exact h9 _
  refine ms_aload_n dX4_takeIllOnes_0 rfl ?_
  refine q_getr dX4_takeIllOnes_1 fX4_19 kd_4_1 (by first | decide | exact lt_sc (by omega) | exact lt_dy (by omega) | exact lt_rw (by omega) | exact lt_wa (by omega) | exact lt_le (by omega)) (by first | rfl | rw [sh_sc (by omega)] | rw [sh_dy (by omega)]) (by first | rfl | exact rf_wa (by omega) | exact rf_le (by omega) | exact rf_rw (by omega)) ?_
  refine q_getr dX4_takeIllOnes_4 fX4_23 kd_0_2 (by first | decide | exact lt_sc (by omega) | exact lt_dy (by omega) | exact lt_rw (by omega) | exact lt_wa (by omega) | exact lt_le (by omega)) (by first | rfl | rw [sh_sc (by omega)] | rw [sh_dy (by omega)]) (by first | rfl | exact rf_wa (by omega) | exact rf_le (by omega) | exact rf_rw (by omega)) ?_
  refine ms_iload_n dX4_takeIllOnes_7 rfl ?_
  refine q_aald dX4_takeIllOnes_8 (by first | exact Or.inl ⟨rfl, by omega, rfl⟩ | exact Or.inr ⟨rfl, by omega, rfl⟩) ?_
  refine ms_astore_n dX4_takeIllOnes_9 (Nat.le_of_ble_eq_true rfl) ?_
  refine ms_iconst (v := nI 0) dX4_takeIllOnes_10 (by decide) ?_
  refine ms_istore_n dX4_takeIllOnes_11 (Nat.le_of_ble_eq_true rfl) ?_
  refine ms_iconst (v := nI 0) dX4_takeIllOnes_12 (by decide) ?_
  refine ms_istore dX4_takeIllOnes_13 (Nat.le_of_ble_eq_true rfl) ?_
  exact loop1 (vn I t + 1) 0 _ (by omega) (by omega)

