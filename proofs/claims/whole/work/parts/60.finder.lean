-- NAME finder
/-! the first day that can have a scene -/
theorem vn_rd {I : m_I} {t pn i : Nat} (hi : i < 30) : vn (rdV I t pn) i = vn I i := congrArg vN (rdI_day hi)
theorem vm_rd {I : m_I} {t pn : Nat} : vm (rdV I t pn) = vm I := congrArg vN (rdV_ne (by decide) (Or.inl (by decide)))
/-- what of a day has no fault -/
def fsV (I : m_I) (t pn : Nat) : Int32 := fsG (faC I t (vn I t) (vw I t) (vq I t) pn (vm I)) (vn I t)
def ftP2 (I : m_I) (s t pn : Nat) : m_I := puI (rdV I t pn) s t (vn I t) (vn I t)
def ftB (I : m_I) (s t pn : Nat) : m_I := rdV (ftP2 I s t pn) t pn
def ftO (I : m_I) (s t pn : Nat) : Bool := decide ((fsV I t pn ||| (nI 1 <<< (nI (vn I t) &&& 31))) &&& (fsV (ftP2 I s t pn) t pn ^^^ -1) = 0)
def ftG (I : m_I) (s t pn : Nat) : Bool := !decide (8 ≤ vn I t) && ftO I s t pn
def ftT (I : m_I) (s t pn : Nat) : m_I := toI (ftB I s t pn) s t (vn I t) (vn (ftB I s t pn) t)
def ftJ (I : m_I) (s t pn : Nat) : m_I := if 8 ≤ vn I t then I else if ftO I s t pn then ftB I s t pn else ftT I s t pn
theorem ftP2_ok {I : m_I} {s t pn : Nat} (h : Vw I) (hs : s < vm I) (hd : I (scI s) 15 = -1) (ht : t < 30) (hn : vn I t < 8) : Vw (ftP2 I s t pn) := by
  have hm := h.1
  have e := Vw_put (I := rdV I t pn) (s := s) (t := t) (a := vn I t) (Vw_rd h) (by rw [vm_rd]; exact hs) ht (by rw [vn_rd ht]; exact hn) (by rw [vn_rd ht]; exact Nat.le_refl _) ((rdI_sc (by omega)).trans hd)
  rw [vn_rd ht] at e
  exact e
theorem ftB_ok {I : m_I} {s t pn : Nat} (h : Vw I) (hs : s < vm I) (hd : I (scI s) 15 = -1) (ht : t < 30) (hn : vn I t < 8) : Vw (ftB I s t pn) := Vw_rd (ftP2_ok h hs hd ht hn)
theorem ftP2_ne {I : m_I} {s t pn a b : Nat} (h : a ≠ 75 ∧ a ≠ 76 ∧ a ≠ 77 ∧ a ≠ 78 ∧ a ≠ 79) (h1 : a ≠ rwI t) (h2 : ¬ (a = dyI t ∧ b = 6)) (h3 : ¬ (a = scI s ∧ b = 15)) : ftP2 I s t pn a b = I a b := (puI_ne h1 h2 h3).trans (rdV_ne h.2 (Or.inl h.1))
theorem ftB_ne {I : m_I} {s t pn a b : Nat} (h : a ≠ 75 ∧ a ≠ 76 ∧ a ≠ 77 ∧ a ≠ 78 ∧ a ≠ 79) (h1 : a ≠ rwI t) (h2 : ¬ (a = dyI t ∧ b = 6)) (h3 : ¬ (a = scI s ∧ b = 15)) : ftB I s t pn a b = I a b := (rdV_ne h.2 (Or.inl h.1)).trans (ftP2_ne h h1 h2 h3)
theorem ftT_ne {I : m_I} {s t pn a b : Nat} (h : a ≠ 75 ∧ a ≠ 76 ∧ a ≠ 77 ∧ a ≠ 78 ∧ a ≠ 79) (h1 : a ≠ rwI t) (h2 : ¬ (a = dyI t ∧ b = 6)) (h3 : ¬ (a = scI s ∧ b = 15)) : ftT I s t pn a b = I a b := (toI_ne h1 h2 h3).trans (ftB_ne h h1 h2 h3)
theorem ftJ_ne {I : m_I} {s t pn a b : Nat} (h : a ≠ 75 ∧ a ≠ 76 ∧ a ≠ 77 ∧ a ≠ 78 ∧ a ≠ 79) (h1 : a ≠ rwI t) (h2 : ¬ (a = dyI t ∧ b = 6)) (h3 : ¬ (a = scI s ∧ b = 15)) : ftJ I s t pn a b = I a b := by
  unfold ftJ
  split
  · rfl
  · split
    · exact ftB_ne h h1 h2 h3
    · exact ftT_ne h h1 h2 h3
theorem vm_P2 {I : m_I} {s t pn : Nat} : vm (ftP2 I s t pn) = vm I := congrArg vN (ftP2_ne (by decide) (by unfold rwI; omega) (by unfold dyI; omega) (by unfold scI; omega))
theorem vm_J {I : m_I} {s t pn : Nat} : vm (ftJ I s t pn) = vm I := congrArg vN (ftJ_ne (by decide) (by unfold rwI; omega) (by unfold dyI; omega) (by unfold scI; omega))
theorem vn_B {I : m_I} {s t pn : Nat} (hs : s < 20) (ht : t < 30) (hn : vn I t < 8) : vn (ftB I s t pn) t = vn I t + 1 := by
  refine (vn_rd ht).trans ?_
  unfold vn
  rw [show ftP2 I s t pn (dyI t) 6 = nI (vn I t + 1) from puI_n hs]
  exact vN_nI (by omega)
theorem vw_B {I : m_I} {s t pn : Nat} (hs : s < 20) (ht : t < 30) : vw (ftB I s t pn) t (vn I t) = s := by
  have e : ftB I s t pn (rwI t) (vn I t) = nI s := (rdI_row ht).trans ((puI_r hs).trans (if_pos rfl))
  unfold vw
  rw [e]
  exact vN_nI (by omega)
theorem ftJ_ok {I : m_I} {s t pn : Nat} (h : Vw I) (hs : s < vm I) (hd : I (scI s) 15 = -1) (ht : t < 30) : Vw (ftJ I s t pn) := by
  have hm := h.1
  unfold ftJ
  by_cases hn : 8 ≤ vn I t
  · rw [if_pos hn]
    exact h
  · rw [if_neg hn]
    have hB := ftB_ok (pn := pn) h hs hd ht (by omega)
    split
    · exact hB
    · exact Vw_take hB ht (by rw [vn_B (by omega) ht (by omega)]; omega) (vw_B (by omega) ht)
theorem ftJ_off {I : m_I} {s t pn : Nat} (hd : I (scI s) 15 = -1) (hg : ftG I s t pn = false) : ftJ I s t pn (scI s) 15 = -1 := by
  unfold ftJ
  by_cases hn : 8 ≤ vn I t
  · rw [if_pos hn]
    exact hd
  · rw [if_neg hn, if_neg]
    · exact toI_dy
    · intro e
      unfold ftG at hg
      rw [e, decide_eq_false hn] at hg
      exact absurd hg (by decide)
theorem k_fits {S : m_S} {I : m_I} {lg : Int64} {d s t pn : Nat} (hd : 5 ≤ d) (h : Vw I) (hP : Pn I pn) (hs : s < vm I) (hdy : I (scI s) 15 = -1) (ht : t < 30) : m_R S M_X4_fits d [.ref 140, .int (nI s), .int (nI t)] (hh I lg) (some (.int (bi (ftG I s t pn)))) (hh (ftJ I s t pn) lg) := by
  have hm := h.1
  have hn : I (dyI t) 6 = nI (vn I t) := (nI_vN _).symm
  have hn8 := h.2.1 t ht
  refine ms_aload_n dX4_fits_0 rfl ?_
  refine q_getr dX4_fits_1 fX4_19 kd_4_1 (by first | decide | exact lt_sc (by omega) | exact lt_dy (by omega) | exact lt_rw (by omega) | exact lt_wa (by omega) | exact lt_le (by omega)) (by first | rfl | rw [sh_sc (by omega)] | rw [sh_dy (by omega)]) (by first | rfl | exact rf_wa (by omega) | exact rf_le (by omega) | exact rf_rw (by omega)) ?_
  refine q_getr dX4_fits_4 fX4_23 kd_0_2 (by first | decide | exact lt_sc (by omega) | exact lt_dy (by omega) | exact lt_rw (by omega) | exact lt_wa (by omega) | exact lt_le (by omega)) (by first | rfl | rw [sh_sc (by omega)] | rw [sh_dy (by omega)]) (by first | rfl | exact rf_wa (by omega) | exact rf_le (by omega) | exact rf_rw (by omega)) ?_
  refine ms_iload_n dX4_fits_7 rfl ?_
  refine q_aald dX4_fits_8 (by first | exact Or.inl ⟨rfl, by omega, rfl⟩ | exact Or.inr ⟨rfl, by omega, rfl⟩) ?_
  refine ms_astore_n dX4_fits_9 (Nat.le_of_ble_eq_true rfl) ?_
  refine ms_aload_n dX4_fits_10 rfl ?_
  refine qRV0 dX4_fits_11 kX4_67 (by show _ < 178; first | decide | exact lt_sc (by omega) | exact lt_dy (by omega)) (by show (sh0 _).1 = _; first | rfl | rw [sh_sc (by omega)] | rw [sh_dy (by omega)]) (d := d - 1) (by show d - 1 + 1 ≤ d; omega)  (Nat.le_of_ble_eq_true rfl) (Nat.le_of_ble_eq_true rfl) (k_isFull ht hn hn8) rfl ?_
  refine ms_if_eq (tgt := 19) dX4_fits_14 (by decide) (fun c14 => ?_) (fun c14 => ?_)
  · have e8 : ¬ 8 ≤ vn I t := of_decide_eq_false (bi_0.mp c14)
    have hn' : rdV I t pn (dyI t) 6 = nI (vn I t) := (rdI_day ht).trans hn
    have hf1 : m_R S M_X0_faultless (d - 1) [.ref 72, .int (nI t)] (hh I lg) (some (.int (fsV I t pn))) (hh (rdV I t pn) lg) := k_faultless (by omega) (Vw_DyC h ht) hP (Vw_Md h)
    have hV2 := ftP2_ok (pn := pn) h hs hdy ht (by omega)
    have hP2 : Pn (ftP2 I s t pn) pn := ⟨(ftP2_ne (by decide) (by unfold rwI; omega) (by unfold dyI; omega) (by unfold scI; omega)).trans hP.1, hP.2⟩
    have hf2 : m_R S M_X0_faultless (d - 1) [.ref 72, .int (nI t)] (hh (ftP2 I s t pn) lg) (some (.int (fsV (ftP2 I s t pn) t pn))) (hh (ftB I s t pn) lg) := k_faultless (by omega) (Vw_DyC hV2 ht) hP2 (Vw_Md hV2)
    have hpu : m_R S M_X0_putOn (d - 1) [.ref 72, .int (nI s), .int (nI t), .int (nI (vn I t))] (hh (rdV I t pn) lg) none (hh (ftP2 I s t pn) lg) := k_putOn (by omega) (by omega) ht hn' (by omega) (Nat.le_refl _)
    have hta : m_R S M_X0_takeOff (d - 1) [.ref 72, .int (nI s)] (hh (ftB I s t pn) lg) none (hh (ftT I s t pn) lg) := k_takeV (by omega) (ftB_ok h hs hdy ht (by omega)) ht (by rw [vn_B (by omega) ht (by omega)]; omega) (vw_B (by omega) ht)
    refine ms_aload_n dX4_fits_19 rfl ?_
    refine q_geti dX4_fits_20 fX4_29 (by rw [kd_3_6]; decide) (by first | decide | exact lt_sc (by omega) | exact lt_dy (by omega) | exact lt_rw (by omega) | exact lt_wa (by omega) | exact lt_le (by omega)) (by first | rfl | rw [sh_sc (by omega)] | rw [sh_dy (by omega)]) hn ?_
    refine ms_istore dX4_fits_23 (Nat.le_of_ble_eq_true rfl) ?_
    refine ms_aload_n dX4_fits_25 rfl ?_
    refine q_getr dX4_fits_26 fX4_19 kd_4_1 (by first | decide | exact lt_sc (by omega) | exact lt_dy (by omega) | exact lt_rw (by omega) | exact lt_wa (by omega) | exact lt_le (by omega)) (by first | rfl | rw [sh_sc (by omega)] | rw [sh_dy (by omega)]) (by first | rfl | exact rf_wa (by omega) | exact rf_le (by omega) | exact rf_rw (by omega)) ?_
    refine ms_iload_n dX4_fits_29 rfl ?_
    refine qRV1 dX4_fits_30 kX4_71 (by show _ < 178; first | decide | exact lt_sc (by omega) | exact lt_dy (by omega)) (by show (sh0 _).1 = _; first | rfl | rw [sh_sc (by omega)] | rw [sh_dy (by omega)]) (d := d - 1) (by show d - 1 + 1 ≤ d; omega) rfl (Nat.le_of_ble_eq_true rfl) (Nat.le_of_ble_eq_true rfl) (hf1) rfl ?_
    refine ms_iconst (v := nI 1) dX4_fits_33 (by decide) ?_
    refine ms_iload dX4_fits_34 rfl ?_
    refine ms_ishl dX4_fits_36 ?_
    refine ms_ior dX4_fits_37 ?_
    refine ms_istore dX4_fits_38 (Nat.le_of_ble_eq_true rfl) ?_
    refine ms_aload_n dX4_fits_40 rfl ?_
    refine q_getr dX4_fits_41 fX4_19 kd_4_1 (by first | decide | exact lt_sc (by omega) | exact lt_dy (by omega) | exact lt_rw (by omega) | exact lt_wa (by omega) | exact lt_le (by omega)) (by first | rfl | rw [sh_sc (by omega)] | rw [sh_dy (by omega)]) (by first | rfl | exact rf_wa (by omega) | exact rf_le (by omega) | exact rf_rw (by omega)) ?_
    refine ms_iload_n dX4_fits_44 rfl ?_
    refine ms_iload_n dX4_fits_45 rfl ?_
    refine ms_iload dX4_fits_46 rfl ?_
    refine qRV3 dX4_fits_48 kX4_75 (by show _ < 178; first | decide | exact lt_sc (by omega) | exact lt_dy (by omega)) (by show (sh0 _).1 = _; first | rfl | rw [sh_sc (by omega)] | rw [sh_dy (by omega)]) (d := d - 1) (by show d - 1 + 1 ≤ d; omega) rfl rfl rfl (Nat.le_of_ble_eq_true rfl) (Nat.le_of_ble_eq_true rfl) (hpu) rfl ?_
    refine ms_iload dX4_fits_51 rfl ?_
    refine ms_aload_n dX4_fits_53 rfl ?_
    refine q_getr dX4_fits_54 fX4_19 kd_4_1 (by first | decide | exact lt_sc (by omega) | exact lt_dy (by omega) | exact lt_rw (by omega) | exact lt_wa (by omega) | exact lt_le (by omega)) (by first | rfl | rw [sh_sc (by omega)] | rw [sh_dy (by omega)]) (by first | rfl | exact rf_wa (by omega) | exact rf_le (by omega) | exact rf_rw (by omega)) ?_
    refine ms_iload_n dX4_fits_57 rfl ?_
    refine qRV1 dX4_fits_58 kX4_71 (by show _ < 178; first | decide | exact lt_sc (by omega) | exact lt_dy (by omega)) (by show (sh0 _).1 = _; first | rfl | rw [sh_sc (by omega)] | rw [sh_dy (by omega)]) (d := d - 1) (by show d - 1 + 1 ≤ d; omega) rfl (Nat.le_of_ble_eq_true rfl) (Nat.le_of_ble_eq_true rfl) (hf2) rfl ?_
    refine ms_iconst (v := -1) dX4_fits_61 (by decide) ?_
    refine ms_ixor dX4_fits_62 ?_
    refine ms_iand dX4_fits_63 ?_
    refine ms_if_ne (tgt := 69) dX4_fits_64 (by decide) (fun c64 => ?_) (fun c64 => ?_)
    · have e1 : ftO I s t pn = false := decide_eq_false c64
      have e2 : ftG I s t pn = false := by unfold ftG; rw [e1, Bool.and_false]
      have e3 : ftJ I s t pn = ftT I s t pn := by unfold ftJ; rw [if_neg e8, e1]; rfl
      rw [e2, e3]
      refine ms_aload_n dX4_fits_69 rfl ?_
      refine q_getr dX4_fits_70 fX4_19 kd_4_1 (by first | decide | exact lt_sc (by omega) | exact lt_dy (by omega) | exact lt_rw (by omega) | exact lt_wa (by omega) | exact lt_le (by omega)) (by first | rfl | rw [sh_sc (by omega)] | rw [sh_dy (by omega)]) (by first | rfl | exact rf_wa (by omega) | exact rf_le (by omega) | exact rf_rw (by omega)) ?_
      refine ms_iload_n dX4_fits_73 rfl ?_
      refine qRV1 dX4_fits_74 kX4_56 (by show _ < 178; first | decide | exact lt_sc (by omega) | exact lt_dy (by omega)) (by show (sh0 _).1 = _; first | rfl | rw [sh_sc (by omega)] | rw [sh_dy (by omega)]) (d := d - 1) (by show d - 1 + 1 ≤ d; omega) rfl (Nat.le_of_ble_eq_true rfl) (Nat.le_of_ble_eq_true rfl) (hta) rfl ?_
      refine ms_iconst (v := nI 0) dX4_fits_77 (by decide) ?_
      refine ms_zret dX4_fits_78 rfl rfl (by first | exact Or.inl (by decide) | exact Or.inr (by decide) | assumption | exact bi_01 _) ⟨?_, ?_⟩
      · rfl
      · rfl
    · have e1 : ftO I s t pn = true := decide_eq_true c64
      have e2 : ftG I s t pn = true := by unfold ftG; rw [e1, decide_eq_false e8]; rfl
      have e3 : ftJ I s t pn = ftB I s t pn := by unfold ftJ; rw [if_neg e8, e1]; rfl
      rw [e2, e3]
      refine ms_iconst (v := nI 1) dX4_fits_67 (by decide) ?_
      refine ms_zret dX4_fits_68 rfl rfl (by first | exact Or.inl (by decide) | exact Or.inr (by decide) | assumption | exact bi_01 _) ⟨?_, ?_⟩
      · rfl
      · rfl
  · have e8 : 8 ≤ vn I t := of_decide_eq_true (bi_n0.mp c14)
    have e2 : ftG I s t pn = false := by unfold ftG; rw [decide_eq_true e8]; rfl
    have e3 : ftJ I s t pn = I := by unfold ftJ; rw [if_pos e8]
    rw [e2, e3]
    refine ms_iconst (v := nI 0) dX4_fits_17 (by decide) ?_
    refine ms_zret dX4_fits_18 rfl rfl (by first | exact Or.inl (by decide) | exact Or.inr (by decide) | assumption | exact bi_01 _) ⟨?_, ?_⟩
    · rfl
    · rfl
def fdR (s pn : Nat) (bf : Int32) : Nat → Nat → m_I → m_I × Bool
  | 0, _, I => (I, false)
  | k + 1, t, I => if nI t = bf then fdR s pn bf k (t + 1) I else if ftG I s t pn then (ftJ I s t pn, true) else fdR s pn bf k (t + 1) (ftJ I s t pn)
theorem Pn_J {I : m_I} {s t pn p2 : Nat} (h : Pn I p2) : Pn (ftJ I s t pn) p2 := ⟨(ftJ_ne (by decide) (by unfold rwI; omega) (by unfold dyI; omega) (by unfold scI; omega)).trans h.1, h.2⟩
theorem k_findDay {S : m_S} {I : m_I} {lg : Int64} {d s pn now : Nat} {bf : Int32} (hd : 6 ≤ d) (h : Vw I) (hP : Pn I pn) (hs : s < vm I) (hdy : I (scI s) 15 = -1) (hnow : I 72 4 = nI now) (hn : now < 30) : m_R S M_X4_findDay d [.ref 140, .int (nI s), .int bf] (hh I lg) (some (.int (bi (fdR s pn bf (30 - now) now I).2))) (hh (fdR s pn bf (30 - now) now I).1 lg) := by
  obtain ⟨⟨Jf, R⟩, hR⟩ : ∃ z, z = fdR s pn bf (30 - now) now I := ⟨_, rfl⟩
  rw [← hR]
  have loop : ∀ (k t : Nat) (I : m_I), t + k = 30 → Vw I → Pn I pn → s < vm I → I (scI s) 15 = -1 → (Jf, R) = fdR s pn bf k t I → m_W S (M_X4_findDay, d, fun w9 g => w9 = some (.int (bi R)) ∧ g = hh Jf lg, fun _ _ => False) 8 [some (.ref 140), some (.int (nI s)), some (.int bf), some (.int (nI t))] [] (hh I lg) 0 0 := by
    intro k
    induction k with
    | zero =>
      intro t I ht h hP hs hdy hR
      obtain ⟨e1, e2⟩ := Prod.mk.inj hR
      obtain rfl : t = 30 := by omega
      rw [e1, e2]
      refine ms_iload_n dX4_findDay_8 rfl ?_
      refine ms_bipush (v := nI 30) dX4_findDay_9 (by decide) ?_
      refine n_icmp_ge (tgt := 36) dX4_findDay_11 (by decide) (by omega) (by omega) (fun c11 => ?_) (fun c11 => ?_)
      · refine ms_iconst (v := nI 0) dX4_findDay_36 (by decide) ?_
        refine ms_zret dX4_findDay_37 rfl rfl (by first | exact Or.inl (by decide) | exact Or.inr (by decide) | assumption | exact bi_01 _) ⟨?_, ?_⟩
        · rfl
        · rfl
      · omega
    | succ k ih =>
      intro t I ht h hP hs hdy hR
      have hm := h.1
      have ht2 : t < 30 := by omega
      refine ms_iload_n dX4_findDay_8 rfl ?_
      refine ms_bipush (v := nI 30) dX4_findDay_9 (by decide) ?_
      refine n_icmp_ge (tgt := 36) dX4_findDay_11 (by decide) (by omega) (by omega) (fun c11 => ?_) (fun c11 => ?_)
      · omega
      · refine ms_iload_n dX4_findDay_14 rfl ?_
        refine ms_iload_n dX4_findDay_15 rfl ?_
        refine ms_icmp_eq (tgt := 30) dX4_findDay_16 (by decide) (fun c16 => ?_) (fun c16 => ?_)
        · refine n_iinc dX4_findDay_30 rfl ?_
          refine ms_goto (tgt := 8) dX4_findDay_33 (by decide) ?_
          exact ih (t + 1) I (by omega) h hP hs hdy (hR.trans (if_pos c16))
        · refine ms_aload_n dX4_findDay_19 rfl ?_
          refine ms_iload_n dX4_findDay_20 rfl ?_
          refine ms_iload_n dX4_findDay_21 rfl ?_
          refine qRV2 dX4_findDay_22 kX4_63 (by show _ < 178; first | decide | exact lt_sc (by omega) | exact lt_dy (by omega)) (by show (sh0 _).1 = _; first | rfl | rw [sh_sc (by omega)] | rw [sh_dy (by omega)]) (d := d - 1) (by show d - 1 + 1 ≤ d; omega) rfl rfl (Nat.le_of_ble_eq_true rfl) (Nat.le_of_ble_eq_true rfl) (k_fits (by omega) h hP hs hdy ht2) rfl ?_
          refine ms_if_eq (tgt := 30) dX4_findDay_25 (by decide) (fun c25 => ?_) (fun c25 => ?_)
          · have eg := bi_0.mp c25
            refine n_iinc dX4_findDay_30 rfl ?_
            refine ms_goto (tgt := 8) dX4_findDay_33 (by decide) ?_
            exact ih (t + 1) _ (by omega) (ftJ_ok h hs hdy ht2) (Pn_J hP) (by rw [vm_J]; exact hs) (ftJ_off hdy eg) (hR.trans ((if_neg c16).trans (if_neg (by rw [eg]; decide))))
          · have eg := bi_n0.mp c25
            obtain ⟨e1, e2⟩ := Prod.mk.inj (hR.trans ((if_neg c16).trans (if_pos eg)))
            rw [e1, e2]
            refine ms_iconst (v := nI 1) dX4_findDay_28 (by decide) ?_
            refine ms_zret dX4_findDay_29 rfl rfl (by first | exact Or.inl (by decide) | exact Or.inr (by decide) | assumption | exact bi_01 _) ⟨?_, ?_⟩
            · rfl
            · rfl
  refine ms_aload_n dX4_findDay_0 rfl ?_
  refine q_getr dX4_findDay_1 fX4_19 kd_4_1 (by first | decide | exact lt_sc (by omega) | exact lt_dy (by omega) | exact lt_rw (by omega) | exact lt_wa (by omega) | exact lt_le (by omega)) (by first | rfl | rw [sh_sc (by omega)] | rw [sh_dy (by omega)]) (by first | rfl | exact rf_wa (by omega) | exact rf_le (by omega) | exact rf_rw (by omega)) ?_
  refine q_geti dX4_findDay_4 fX4_60 (by rw [kd_0_4]; decide) (by first | decide | exact lt_sc (by omega) | exact lt_dy (by omega) | exact lt_rw (by omega) | exact lt_wa (by omega) | exact lt_le (by omega)) (by first | rfl | rw [sh_sc (by omega)] | rw [sh_dy (by omega)]) hnow ?_
  refine ms_istore_n dX4_findDay_7 (Nat.le_of_ble_eq_true rfl) ?_
  exact loop (30 - now) now I (by omega) h hP hs hdy hR

