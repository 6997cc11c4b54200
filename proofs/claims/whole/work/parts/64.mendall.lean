-- NAME mendall
theorem fdR_hi {s pn : Nat} {bf : Int32} {b : Nat} : ∀ (k t : Nat) (I : m_I), t + k = 30 → (fdR s pn bf k t I).1 141 b = I 141 b := by
  intro k
  induction k with
  | zero => exact fun _ _ _ => rfl
  | succ k ih =>
    intro t I ht
    have e : ftJ I s t pn 141 b = I 141 b := ftJ_ne (by decide) (by unfold rwI; omega) (by unfold dyI; omega) (by unfold scI; omega)
    unfold fdR
    split
    · exact ih _ _ (by omega)
    · split
      · exact e
      · exact (ih _ _ (by omega)).trans e
def mnR (pn t : Nat) (sq : Nat → Nat) : Nat → Nat → Nat → m_I → m_I × Nat
  | 0, _, p, I => (I, p)
  | k + 1, i, p, I => mnR pn t sq k (i + 1) (if (fdR (sq i) pn (nI t) (30 - vt I) (vt I) I).2 then p + 1 else p) (fdR (sq i) pn (nI t) (30 - vt I) (vt I) I).1
/-- the ill ones taken off, and how many -/
def mnA (I : m_I) (t : Nat) : m_I := tkB (tkA I t (vn I t)).1 t (tkA I t (vn I t)).2
def mnC (I : m_I) (t : Nat) : Nat := (tkA I t (vn I t)).2
def mnF (I : m_I) (t pn : Nat) : m_I × Nat := mnR pn t (fun i => vN (mnA I t 141 i)) (mnC I t) 0 0 (mnA I t)
theorem mnA_ok {I : m_I} {t : Nat} (h : Vw I) (ht : t < 30) : Vw (mnA I t) ∧ vm (mnA I t) = vm I ∧ mnC I t ≤ 8 ∧ (∀ i, i < mnC I t → vN (mnA I t 141 i) < vm I ∧ mnA I t (scI (vN (mnA I t 141 i))) 15 = -1) ∧ ∀ i i', i < mnC I t → i' < mnC I t → vN (mnA I t 141 i) = vN (mnA I t 141 i') → i = i' := by
  have hm := h.1
  have hn8 := h.2.1 t ht
  obtain ⟨J, hJ⟩ : ∃ J, J = (tkA I t (vn I t)).1 := ⟨_, rfl⟩
  obtain ⟨c, hc⟩ : ∃ c, c = (tkA I t (vn I t)).2 := ⟨_, rfl⟩
  have hc8 : c ≤ 8 := by have := tkA_le (I := I) (t := t) (vn I t); omega
  obtain ⟨hin, hdis⟩ := tkA_in h ht (vn I t) (Nat.le_refl _)
  rw [← hJ, ← hc] at hin hdis
  unfold mnA mnC
  rw [← hJ, ← hc]
  have hJne : ∀ a b, a ≠ 141 → J a b = I a b := fun a b ha => by rw [hJ]; exact tkA_ne ha _
  have hVJ : Vw J := Vw_cong h (hJne _ _ (by decide)) (fun t ht => ⟨hJne _ _ (by unfold dyI; omega), fun j => hJne _ _ (by unfold rwI; omega)⟩) (fun s hs => ⟨hJne _ _ (by unfold scI; omega), hJne _ _ (by unfold scI; omega)⟩)
  have hvmJ : vm J = vm I := congrArg vN (hJne _ _ (by decide))
  have hcJ : ∀ i, i < c → vN (J 141 i) < vm J ∧ J (scI (vN (J 141 i))) 15 = nI t := fun i hi => by
    obtain ⟨j, hj, e⟩ := hin i hi
    obtain ⟨q1, q2⟩ := h.2.2.1 t j ht hj
    rw [e, vN_nI (by omega), hvmJ]
    exact ⟨q1, (hJne _ _ (by unfold scI; omega)).trans q2⟩
  obtain ⟨b1, b2, b3, b4⟩ := tkB_ok hVJ ht hcJ hdis c (Nat.le_refl _)
  have hv : ∀ i, tkB J t c 141 i = J 141 i := fun i => tkB_ne (by unfold rwI; omega) (by unfold dyI; omega) (fun s => by unfold scI; omega) c
  refine ⟨b1, b4.trans hvmJ, hc8, fun i hi => ?_, fun i i' hi hi' e => ?_⟩
  · rw [hv i]
    exact ⟨by rw [← hvmJ]; exact (hcJ i hi).1, b3 i hi⟩
  · rw [hv i, hv i'] at e
    exact hdis i i' hi hi' (by rw [← nI_vN (J 141 i), e, nI_vN])
theorem mnA_ne {I : m_I} {t a b : Nat} (ha : a ≠ 141) (h : a ≠ rwI t) (h2 : ¬ (a = dyI t ∧ b = 6)) (h3 : ∀ s, ¬ (a = scI s ∧ b = 15)) : mnA I t a b = I a b := (tkB_ne h h2 h3 _).trans (tkA_ne ha _)
theorem k_mend {S : m_S} {I : m_I} {lg : Int64} {d pn t : Nat} (hd : 7 ≤ d) (h : Vw I) (hP : Pn I pn) (ht : t < 30) (hn : vt I ≤ t) : m_R S M_X10_mend d [.ref 0, .int (nI t)] (hh I lg) (some (.int (nI (mnF I t pn).2))) (hh (mnF I t pn).1 lg) := by
  have hm := h.1
  obtain ⟨a1, a2, a3, a4, a5⟩ := mnA_ok h ht
  obtain ⟨⟨Jf, R⟩, hR⟩ : ∃ z, z = mnF I t pn := ⟨_, rfl⟩
  rw [← hR]
  have hnow : I 72 4 = nI (vt I) := (nI_vN _).symm
  have hti : m_R S M_X4_takeIllOnes (d - 1) [.ref 140, .int (nI t)] (hh I lg) (some (.int (nI (mnC I t)))) (hh (mnA I t) lg) := k_takeIll (by omega) h ht
  obtain ⟨sq, hsq⟩ : ∃ sq : Nat → Nat, sq = fun i => vN (mnA I t 141 i) := ⟨_, rfl⟩
  have hsqe : ∀ i, vN (mnA I t 141 i) = sq i := fun i => by rw [hsq]
  have loop : ∀ (k i p : Nat) (I2 : m_I), i + k = mnC I t → Vw I2 → Pn I2 pn → vt I2 < 30 → vm I2 = vm I → (∀ i', i ≤ i' → i' < mnC I t → I2 (scI (sq i')) 15 = -1) → (∀ i', I2 141 i' = mnA I t 141 i') → (Jf, R) = mnR pn t sq k i p I2 → m_W S (M_X10_mend, d, fun w9 g => w9 = some (.int (nI R)) ∧ g = hh Jf lg, fun _ _ => False) 39 [some (.ref 0), some (.int (nI t)), some (.int (nI (mnC I t))), some (.int (nI p)), some (.int (nI i))] [] (hh I2 lg) 0 0 := by
    intro k
    induction k with
    | zero =>
      intro i p I2 hk h2 hP2 hn2 hm2 hd2 he2 hR2
      obtain ⟨e1, e2⟩ := Prod.mk.inj hR2
      rw [e1, e2]
      refine ms_iload dX10_mend_39 rfl ?_
      refine ms_iload_n dX10_mend_41 rfl ?_
      refine n_icmp_ge (tgt := 75) dX10_mend_42 (by decide) (by omega) (by omega) (fun c42 => ?_) (fun c42 => ?_)
      · refine ms_iload_n dX10_mend_75 rfl ?_
        refine ms_iret dX10_mend_76 rfl rfl ⟨?_, ?_⟩
        · rfl
        · rfl
      · omega
    | succ k ih =>
      intro i p I2 hk h2 hP2 hn2 hm2 hd2 he2 hR2
      have hi : i < mnC I t := by omega
      have hs := (a4 i hi).1
      rw [hsqe] at hs
      have hv : I2 141 i = nI (sq i) := by rw [he2, ← hsqe]; exact (nI_vN _).symm
      obtain ⟨r, hr⟩ : ∃ r, r = fdR (sq i) pn (nI t) (30 - vt I2) (vt I2) I2 := ⟨_, rfl⟩
      have hdi := hd2 i (Nat.le_refl _) hi
      have hfd : m_R S M_X4_findDay (d - 1) [.ref 140, .int (nI (sq i)), .int (nI t)] (hh I2 lg) (some (.int (bi r.2))) (hh r.1 lg) := by
        rw [hr]
        exact k_findDay (by omega) h2 hP2 (by omega) hdi (nI_vN _).symm hn2
      have hlo : ∀ a b, a < 75 → ¬ (a = scI (sq i) ∧ b = 15) → r.1 a b = I2 a b := fun a b ha hb => by rw [hr]; exact fdR_lo ha hb _ _ _
      have g1 : Vw r.1 := by rw [hr]; exact fdR_ok _ _ _ (by omega) h2 (by omega) hdi
      have g2 : Pn r.1 pn := ⟨(hlo _ _ (by decide) (by unfold scI; omega)).trans hP2.1, hP2.2⟩
      have g3 : vt r.1 < 30 := by
        rw [show vt r.1 = vt I2 from congrArg vN (hlo _ _ (by decide) (by unfold scI; omega))]
        exact hn2
      have g4 : vm r.1 = vm I := (congrArg vN (hlo _ _ (by decide) (by unfold scI; omega))).trans hm2
      have g5 : ∀ i', i + 1 ≤ i' → i' < mnC I t → r.1 (scI (sq i')) 15 = -1 := fun i' hi1 hi2 => by
        have q1 := (a4 i' hi2).1
        rw [hsqe] at q1
        refine (hlo _ _ (by unfold scI; omega) (fun z => ?_)).trans (hd2 i' (by omega) hi2)
        have z2 : sq i' = sq i := by have := z.1; unfold scI at this; omega
        have := a5 i' i hi2 hi (by rw [hsqe, hsqe]; exact z2)
        omega
      have g6 : ∀ i', r.1 141 i' = mnA I t 141 i' := fun i' => by
        rw [hr]
        exact (fdR_hi _ _ _ (by omega)).trans (he2 i')
      have eR : (Jf, R) = mnR pn t sq k (i + 1) (if r.2 then p + 1 else p) r.1 := by rw [hr]; exact hR2
      refine ms_iload dX10_mend_39 rfl ?_
      refine ms_iload_n dX10_mend_41 rfl ?_
      refine n_icmp_ge (tgt := 75) dX10_mend_42 (by decide) (by omega) (by omega) (fun c42 => ?_) (fun c42 => ?_)
      · omega
      · refine ms_aload_n dX10_mend_45 rfl ?_
        refine q_getr dX10_mend_46 fX10_44 kd_10_4 (by first | decide | exact lt_sc (by omega) | exact lt_dy (by omega) | exact lt_rw (by omega) | exact lt_wa (by omega) | exact lt_le (by omega)) (by first | rfl | rw [sh_sc (by omega)] | rw [sh_dy (by omega)]) (by first | rfl | exact rf_wa (by omega) | exact rf_le (by omega) | exact rf_rw (by omega)) ?_
        refine ms_aload_n dX10_mend_49 rfl ?_
        refine q_getr dX10_mend_50 fX10_44 kd_10_4 (by first | decide | exact lt_sc (by omega) | exact lt_dy (by omega) | exact lt_rw (by omega) | exact lt_wa (by omega) | exact lt_le (by omega)) (by first | rfl | rw [sh_sc (by omega)] | rw [sh_dy (by omega)]) (by first | rfl | exact rf_wa (by omega) | exact rf_le (by omega) | exact rf_rw (by omega)) ?_
        refine q_getr dX10_mend_53 fX10_245 kd_4_2 (by first | decide | exact lt_sc (by omega) | exact lt_dy (by omega) | exact lt_rw (by omega) | exact lt_wa (by omega) | exact lt_le (by omega)) (by first | rfl | rw [sh_sc (by omega)] | rw [sh_dy (by omega)]) (by first | rfl | exact rf_wa (by omega) | exact rf_le (by omega) | exact rf_rw (by omega)) ?_
        refine ms_iload dX10_mend_56 rfl ?_
        refine q_iald dX10_mend_58 (by first | decide | exact lt_sc (by omega) | exact lt_dy (by omega) | exact lt_rw (by omega) | exact lt_wa (by omega) | exact lt_le (by omega)) (by first | rfl | exact sh_rw (by omega) | exact sh_wa (by omega) | exact sh_le (by omega)) (by omega) (by decide) hv ?_
        refine ms_iload_n dX10_mend_59 rfl ?_
        refine qRV2 dX10_mend_60 kX10_237 (by show _ < 178; first | decide | exact lt_sc (by omega) | exact lt_dy (by omega)) (by show (sh0 _).1 = _; first | rfl | rw [sh_sc (by omega)] | rw [sh_dy (by omega)]) (d := d - 1) (by show d - 1 + 1 ≤ d; omega) rfl rfl (Nat.le_of_ble_eq_true rfl) (Nat.le_of_ble_eq_true rfl) (hfd) rfl ?_
        refine ms_if_eq (tgt := 69) dX10_mend_63 (by decide) (fun c63 => ?_) (fun c63 => ?_)
        · rw [bi_0.mp c63] at eR
          refine n_iinc dX10_mend_69 rfl ?_
          refine ms_goto (tgt := 39) dX10_mend_72 (by decide) ?_
          exact ih (i + 1) p _ (by omega) g1 g2 g3 g4 g5 g6 eR
        · rw [bi_n0.mp c63] at eR
          refine n_iinc dX10_mend_66 rfl ?_
          refine n_iinc dX10_mend_69 rfl ?_
          refine ms_goto (tgt := 39) dX10_mend_72 (by decide) ?_
          exact ih (i + 1) (p + 1) _ (by omega) g1 g2 g3 g4 g5 g6 eR
  refine ms_iload_n dX10_mend_0 rfl ?_
  refine qRS1 dX10_mend_1 kX10_166 (d := d - 1) (by show d - 1 + 1 ≤ d; omega) rfl (Nat.le_of_ble_eq_true rfl) (Nat.le_of_ble_eq_true rfl) (k_checkDay (by omega) rfl ht) rfl ?_
  refine ms_iload_n dX10_mend_4 rfl ?_
  refine ms_aload_n dX10_mend_5 rfl ?_
  refine q_getr dX10_mend_6 fX10_35 kd_10_3 (by first | decide | exact lt_sc (by omega) | exact lt_dy (by omega) | exact lt_rw (by omega) | exact lt_wa (by omega) | exact lt_le (by omega)) (by first | rfl | rw [sh_sc (by omega)] | rw [sh_dy (by omega)]) (by first | rfl | exact rf_wa (by omega) | exact rf_le (by omega) | exact rf_rw (by omega)) ?_
  refine q_geti dX10_mend_9 fX10_212 (by rw [kd_0_4]; decide) (by first | decide | exact lt_sc (by omega) | exact lt_dy (by omega) | exact lt_rw (by omega) | exact lt_wa (by omega) | exact lt_le (by omega)) (by first | rfl | rw [sh_sc (by omega)] | rw [sh_dy (by omega)]) hnow ?_
  refine n_icmp_ge (tgt := 25) dX10_mend_12 (by decide) (by omega) (by omega) (fun c12 => ?_) (fun c12 => ?_)
  · refine ms_aload_n dX10_mend_25 rfl ?_
    refine q_getr dX10_mend_26 fX10_44 kd_10_4 (by first | decide | exact lt_sc (by omega) | exact lt_dy (by omega) | exact lt_rw (by omega) | exact lt_wa (by omega) | exact lt_le (by omega)) (by first | rfl | rw [sh_sc (by omega)] | rw [sh_dy (by omega)]) (by first | rfl | exact rf_wa (by omega) | exact rf_le (by omega) | exact rf_rw (by omega)) ?_
    refine ms_iload_n dX10_mend_29 rfl ?_
    refine qRV1 dX10_mend_30 kX10_242 (by show _ < 178; first | decide | exact lt_sc (by omega) | exact lt_dy (by omega)) (by show (sh0 _).1 = _; first | rfl | rw [sh_sc (by omega)] | rw [sh_dy (by omega)]) (d := d - 1) (by show d - 1 + 1 ≤ d; omega) rfl (Nat.le_of_ble_eq_true rfl) (Nat.le_of_ble_eq_true rfl) (hti) rfl ?_
    refine ms_istore_n dX10_mend_33 (Nat.le_of_ble_eq_true rfl) ?_
    refine ms_iconst (v := nI 0) dX10_mend_34 (by decide) ?_
    refine ms_istore_n dX10_mend_35 (Nat.le_of_ble_eq_true rfl) ?_
    refine ms_iconst (v := nI 0) dX10_mend_36 (by decide) ?_
    refine ms_istore dX10_mend_37 (Nat.le_of_ble_eq_true rfl) ?_
    refine loop (mnC I t) 0 0 (mnA I t) (by omega) a1 ⟨(mnA_ne (by decide) (by unfold rwI; omega) (by unfold dyI; omega) (fun s => by unfold scI; omega)).trans hP.1, hP.2⟩ ?_ a2 (fun i' _ hi => ?_) (fun _ => rfl) ?_
    · rw [show vt (mnA I t) = vt I from congrArg vN (mnA_ne (by decide) (by unfold rwI; omega) (by unfold dyI; omega) (fun s => by unfold scI; omega))]
      omega
    · rw [← hsqe]
      exact (a4 i' hi).2
    · rw [hsq]
      exact hR
  · omega
theorem k_mendT1 {S : m_S} {I : m_I} {lg : Int64} {d : Nat} {x : Int32} (hd : 8 ≤ d) (hx : ∀ j, j < 30 → x ≠ nI j) : m_T S M_X10_mend d [.ref 0, .int x] (hh I lg) "java/lang/IndexOutOfBoundsException" := by
  refine ms_iload_n dX10_mend_0 rfl ?_
  exact qTS1 dX10_mend_1 kX10_166 (d := d - 1) (by show d - 1 + 1 ≤ d; omega) rfl (Nat.le_of_ble_eq_true rfl) (Nat.le_of_ble_eq_true rfl) (k_checkDayT (by omega) hx) (by decide) (by decide) (Or.inl ⟨rfl, rfl, rfl⟩)
theorem k_mendT2 {S : m_S} {I : m_I} {lg : Int64} {d t : Nat} (hd : 8 ≤ d) (ht : t < 30) (hn : t < vt I) (hn2 : vt I < 30) : m_T S M_X10_mend d [.ref 0, .int (nI t)] (hh I lg) "java/lang/IllegalStateException" := by
  have hnow : I 72 4 = nI (vt I) := (nI_vN _).symm
  refine ms_iload_n dX10_mend_0 rfl ?_
  refine qRS1 dX10_mend_1 kX10_166 (d := d - 1) (by show d - 1 + 1 ≤ d; omega) rfl (Nat.le_of_ble_eq_true rfl) (Nat.le_of_ble_eq_true rfl) (k_checkDay (by omega) rfl ht) rfl ?_
  refine ms_iload_n dX10_mend_4 rfl ?_
  refine ms_aload_n dX10_mend_5 rfl ?_
  refine q_getr dX10_mend_6 fX10_35 kd_10_3 (by first | decide | exact lt_sc (by omega) | exact lt_dy (by omega) | exact lt_rw (by omega) | exact lt_wa (by omega) | exact lt_le (by omega)) (by first | rfl | rw [sh_sc (by omega)] | rw [sh_dy (by omega)]) (by first | rfl | exact rf_wa (by omega) | exact rf_le (by omega) | exact rf_rw (by omega)) ?_
  refine q_geti dX10_mend_9 fX10_212 (by rw [kd_0_4]; decide) (by first | decide | exact lt_sc (by omega) | exact lt_dy (by omega) | exact lt_rw (by omega) | exact lt_wa (by omega) | exact lt_le (by omega)) (by first | rfl | rw [sh_sc (by omega)] | rw [sh_dy (by omega)]) hnow ?_
  refine n_icmp_ge (tgt := 25) dX10_mend_12 (by decide) (by omega) (by omega) (fun c12 => ?_) (fun c12 => ?_)
  · omega
  · exact ms_thr dX10_mend_15 dX10_mend_18 dX10_mend_19 dX10_mend_21 dX10_mend_24 thX10_mend_15 rfl (by show 6 ≤ d; omega) (by decide) (by decide) (Nat.le_of_ble_eq_true rfl) ⟨rfl, rfl⟩

