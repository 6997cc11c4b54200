-- NAME filled
/-! fill -/
def fst1 (p : Nat → Bool) : Nat → Nat
  | 0 => 0
  | n + 1 => if fst1 p n < n then fst1 p n else if p n then n else n + 1
theorem fst1_ok (p : Nat → Bool) : ∀ n, fst1 p n ≤ n ∧ (∀ j, j < fst1 p n → p j = false) ∧ (fst1 p n < n → p (fst1 p n) = true)
  | 0 => ⟨Nat.le_refl _, fun j hj => absurd hj (Nat.not_lt_zero j), fun h => absurd h (Nat.not_lt_zero _)⟩
  | n + 1 => by
    obtain ⟨h1, h2, h3⟩ := fst1_ok p n
    by_cases e : fst1 p n < n
    · have e1 : fst1 p (n + 1) = fst1 p n := if_pos e
      rw [e1]
      exact ⟨by omega, h2, fun _ => h3 e⟩
    · have e0 : fst1 p n = n := by omega
      by_cases e2 : p n = true
      · have e1 : fst1 p (n + 1) = n := (if_neg e).trans (if_pos e2)
        rw [e1]
        rw [e0] at h2
        exact ⟨by omega, h2, fun _ => e2⟩
      · have e1 : fst1 p (n + 1) = n + 1 := (if_neg e).trans (if_neg e2)
        rw [e1]
        rw [e0] at h2
        refine ⟨Nat.le_refl _, fun j hj => ?_, fun z => absurd z (Nat.lt_irrefl _)⟩
        by_cases e3 : j = n
        · rw [e3]
          exact Bool.eq_false_iff.mpr e2
        · exact h2 j (by omega)
theorem fdR_lo {s pn : Nat} {bf : Int32} {a b : Nat} (ha : a < 75) (h3 : ¬ (a = scI s ∧ b = 15)) : ∀ (k t : Nat) (I : m_I), (fdR s pn bf k t I).1 a b = I a b := by
  intro k
  induction k with
  | zero => exact fun _ _ => rfl
  | succ k ih =>
    intro t I
    have e : ftJ I s t pn a b = I a b := ftJ_ne (by omega) (by unfold rwI; omega) (by unfold dyI; omega) h3
    unfold fdR
    split
    · exact ih _ _
    · split
      · exact e
      · exact (ih _ _).trans e
theorem fdR_ok {s pn : Nat} {bf : Int32} : ∀ (k t : Nat) (I : m_I), t + k = 30 → Vw I → s < vm I → I (scI s) 15 = -1 → Vw (fdR s pn bf k t I).1 := by
  intro k
  induction k with
  | zero => exact fun _ _ _ h _ _ => h
  | succ k ih =>
    intro t I ht h hs hd
    have hJ := ftJ_ok (pn := pn) h hs hd (show t < 30 by omega)
    unfold fdR
    split
    · exact ih _ _ (by omega) h hs hd
    · by_cases e : ftG I s t pn = true
      · rw [if_pos e]
        exact hJ
      · rw [if_neg e]
        exact ih _ _ (by omega) hJ (by rw [vm_J]; exact hs) (ftJ_off hd (Bool.eq_false_iff.mpr e))
theorem vm_fd {s pn : Nat} {bf : Int32} {k t : Nat} {I : m_I} : vm (fdR s pn bf k t I).1 = vm I := congrArg vN (fdR_lo (by decide) (by unfold scI; omega) k t I)
/-- the order of the story -/
def vo (I : m_I) (k : Nat) : Nat := vN (I 3 k)
def Ow (I : m_I) : Prop := ∀ k, k < vm I → vo I k < vm I
/-- the day of now -/
def vt (I : m_I) : Nat := vN (I 72 4)
def filK (I : m_I) (tr : Int32) : Nat := fst1 (ftP I (vo I) (vm I) tr) (vm I)
def filD (I : m_I) (tr : Int32) (pn : Nat) : m_I × Bool := fdR (vo I (filK I tr)) pn (-1) (30 - vt I) (vt I) I
def filR (pn : Nat) : Nat → Int32 → Nat → m_I → m_I × Nat
  | 0, _, p, I => (I, p)
  | k + 1, tr, p, I => if filK I tr < vm I then filR pn k (tr ||| (nI 1 <<< (nI (vo I (filK I tr)) &&& 31))) (if (filD I tr pn).2 then p + 1 else p) (filD I tr pn).1 else (I, p)
theorem filD_lo {I : m_I} {tr : Int32} {pn a b : Nat} (ha : a < 75) (h3 : ¬ (a = scI (vo I (filK I tr)) ∧ b = 15)) : (filD I tr pn).1 a b = I a b := fdR_lo ha h3 _ _ _
theorem vm_fil {I : m_I} {tr : Int32} {pn : Nat} : vm (filD I tr pn).1 = vm I := vm_fd
theorem k_fillA {S : m_S} {I : m_I} {lg : Int64} {d pn : Nat} (hd : 7 ≤ d) (h : Vw I) (hP : Pn I pn) (hO : Ow I) (hn : vt I < 30) : m_R S M_X10_fill d [.ref 0] (hh I lg) (some (.int (nI (filR pn (vm I) 0 0 I).2))) (hh (filR pn (vm I) 0 0 I).1 lg) := by
  obtain ⟨⟨Jf, R⟩, hR⟩ : ∃ z, z = filR pn (vm I) 0 0 I := ⟨_, rfl⟩
  rw [← hR]
  have loop : ∀ (k i p : Nat) (tr : Int32) (I : m_I) (d4 : Option Value), i + k = vm I → Vw I → Pn I pn → Ow I → vt I < 30 → (Jf, R) = filR pn k tr p I → m_W S (M_X10_fill, d, fun w9 g => w9 = some (.int (nI R)) ∧ g = hh Jf lg, fun _ _ => False) 6 [some (.ref 0), some (.int tr), some (.int (nI p)), some (.int (nI i)), d4] [] (hh I lg) 0 0 := by
    intro k
    induction k with
    | zero =>
      intro i p tr I d4 ht h hP hO hn hR
      have hm := h.1
      have hM : I 1 3 = nI (vm I) := (nI_vN _).symm
      obtain ⟨e1, e2⟩ := Prod.mk.inj hR
      rw [e1, e2]
      refine ms_iload_n dX10_fill_6 rfl ?_
      refine ms_aload_n dX10_fill_7 rfl ?_
      refine q_getr dX10_fill_8 fX10_10 kd_10_0 (by first | decide | exact lt_sc (by omega) | exact lt_dy (by omega) | exact lt_rw (by omega) | exact lt_wa (by omega) | exact lt_le (by omega)) (by first | rfl | rw [sh_sc (by omega)] | rw [sh_dy (by omega)]) (by first | rfl | exact rf_wa (by omega) | exact rf_le (by omega) | exact rf_rw (by omega)) ?_
      refine q_geti dX10_fill_11 fX10_92 (by rw [kd_9_3]; decide) (by first | decide | exact lt_sc (by omega) | exact lt_dy (by omega) | exact lt_rw (by omega) | exact lt_wa (by omega) | exact lt_le (by omega)) (by first | rfl | rw [sh_sc (by omega)] | rw [sh_dy (by omega)]) hM ?_
      refine n_icmp_ge (tgt := 64) dX10_fill_14 (by decide) (by omega) (by omega) (fun c14 => ?_) (fun c14 => ?_)
      · refine ms_iload_n dX10_fill_64 rfl ?_
        refine ms_iret dX10_fill_65 rfl rfl ⟨?_, ?_⟩
        · rfl
        · rfl
      · omega
    | succ k ih =>
      intro i p tr I d4 ht h hP hO hn hR
      have hm := h.1
      have hM : I 1 3 = nI (vm I) := (nI_vN _).symm
      obtain ⟨f1, f2, f3⟩ := fst1_ok (ftP I (vo I) (vm I) tr) (vm I)
      have hft := k_firstToTry (S := S) (lg := lg) (I := I) (d := d - 1) (m := vm I) (k0 := filK I tr) (tr := tr) (o := vo I) (by omega) hM hm (fun k hk => ⟨(nI_vN _).symm, by have := hO k hk; omega⟩) f1 f2 f3
      have hnow : I 72 4 = nI (vt I) := (nI_vN _).symm
      refine ms_iload_n dX10_fill_6 rfl ?_
      refine ms_aload_n dX10_fill_7 rfl ?_
      refine q_getr dX10_fill_8 fX10_10 kd_10_0 (by first | decide | exact lt_sc (by omega) | exact lt_dy (by omega) | exact lt_rw (by omega) | exact lt_wa (by omega) | exact lt_le (by omega)) (by first | rfl | rw [sh_sc (by omega)] | rw [sh_dy (by omega)]) (by first | rfl | exact rf_wa (by omega) | exact rf_le (by omega) | exact rf_rw (by omega)) ?_
      refine q_geti dX10_fill_11 fX10_92 (by rw [kd_9_3]; decide) (by first | decide | exact lt_sc (by omega) | exact lt_dy (by omega) | exact lt_rw (by omega) | exact lt_wa (by omega) | exact lt_le (by omega)) (by first | rfl | rw [sh_sc (by omega)] | rw [sh_dy (by omega)]) hM ?_
      refine n_icmp_ge (tgt := 64) dX10_fill_14 (by decide) (by omega) (by omega) (fun c14 => ?_) (fun c14 => ?_)
      · omega
      · by_cases e : filK I tr < vm I
        · rw [if_pos e] at hft
          have hs := hO _ e
          have hlo : loC I (vo I (filK I tr)) = true := by
            have h9 := f3 e
            unfold ftP at h9
            simp only [Bool.and_eq_true] at h9
            exact h9.2.1
          have hdy : I (scI (vo I (filK I tr))) 15 = -1 := (of_decide_eq_true hlo).2.2
          have hfd : m_R S M_X4_findDay (d - 1) [.ref 140, .int (nI (vo I (filK I tr))), .int (-1)] (hh I lg) (some (.int (bi (filD I tr pn).2))) (hh (filD I tr pn).1 lg) := k_findDay (by omega) h hP hs hdy hnow hn
          have eR := hR.trans (if_pos e)
          have hJ : Vw (filD I tr pn).1 := fdR_ok _ _ _ (by omega) h hs hdy
          have hJP : Pn (filD I tr pn).1 pn := ⟨(filD_lo (by decide) (by unfold scI; omega)).trans hP.1, hP.2⟩
          have hJO : Ow (filD I tr pn).1 := fun j hj => by
            rw [vm_fil] at hj ⊢
            rw [show vo (filD I tr pn).1 j = vo I j from congrArg vN (filD_lo (by decide) (by unfold scI; omega))]
            exact hO j hj
          have hJn : vt (filD I tr pn).1 < 30 := by
            rw [show vt (filD I tr pn).1 = vt I from congrArg vN (filD_lo (by decide) (by unfold scI; omega))]
            exact hn
          have hne : nI (vo I (filK I tr)) ≠ -1 := fun z => by
            have h0 := nI_pos (n := vo I (filK I tr)) (by omega)
            rw [z] at h0
            exact absurd (by decide) h0
          refine ms_aload_n dX10_fill_17 rfl ?_
          refine q_getr dX10_fill_18 fX10_10 kd_10_0 (by first | decide | exact lt_sc (by omega) | exact lt_dy (by omega) | exact lt_rw (by omega) | exact lt_wa (by omega) | exact lt_le (by omega)) (by first | rfl | rw [sh_sc (by omega)] | rw [sh_dy (by omega)]) (by first | rfl | exact rf_wa (by omega) | exact rf_le (by omega) | exact rf_rw (by omega)) ?_
          refine ms_iload_n dX10_fill_21 rfl ?_
          refine qRV1 dX10_fill_22 kX10_234 (by show _ < 178; first | decide | exact lt_sc (by omega) | exact lt_dy (by omega)) (by show (sh0 _).1 = _; first | rfl | rw [sh_sc (by omega)] | rw [sh_dy (by omega)]) (d := d - 1) (by show d - 1 + 1 ≤ d; omega) rfl (Nat.le_of_ble_eq_true rfl) (Nat.le_of_ble_eq_true rfl) (hft) rfl ?_
          refine ms_istore dX10_fill_25 (Nat.le_of_ble_eq_true rfl) ?_
          refine ms_iload dX10_fill_27 rfl ?_
          refine ms_iconst (v := -1) dX10_fill_29 (by decide) ?_
          refine ms_icmp_ne (tgt := 35) dX10_fill_30 (by decide) (fun c30 => ?_) (fun c30 => ?_)
          · refine ms_iload_n dX10_fill_35 rfl ?_
            refine ms_iconst (v := nI 1) dX10_fill_36 (by decide) ?_
            refine ms_iload dX10_fill_37 rfl ?_
            refine ms_ishl dX10_fill_39 ?_
            refine ms_ior dX10_fill_40 ?_
            refine ms_istore_n dX10_fill_41 (Nat.le_of_ble_eq_true rfl) ?_
            refine ms_aload_n dX10_fill_42 rfl ?_
            refine q_getr dX10_fill_43 fX10_44 kd_10_4 (by first | decide | exact lt_sc (by omega) | exact lt_dy (by omega) | exact lt_rw (by omega) | exact lt_wa (by omega) | exact lt_le (by omega)) (by first | rfl | rw [sh_sc (by omega)] | rw [sh_dy (by omega)]) (by first | rfl | exact rf_wa (by omega) | exact rf_le (by omega) | exact rf_rw (by omega)) ?_
            refine ms_iload dX10_fill_46 rfl ?_
            refine ms_iconst (v := -1) dX10_fill_48 (by decide) ?_
            refine qRV2 dX10_fill_49 kX10_237 (by show _ < 178; first | decide | exact lt_sc (by omega) | exact lt_dy (by omega)) (by show (sh0 _).1 = _; first | rfl | rw [sh_sc (by omega)] | rw [sh_dy (by omega)]) (d := d - 1) (by show d - 1 + 1 ≤ d; omega) rfl rfl (Nat.le_of_ble_eq_true rfl) (Nat.le_of_ble_eq_true rfl) (hfd) rfl ?_
            refine ms_if_eq (tgt := 58) dX10_fill_52 (by decide) (fun c52 => ?_) (fun c52 => ?_)
            · rw [bi_0.mp c52] at eR
              refine n_iinc dX10_fill_58 rfl ?_
              refine ms_goto (tgt := 6) dX10_fill_61 (by decide) ?_
              exact ih (i + 1) p _ _ _ (by rw [vm_fil]; omega) hJ hJP hJO hJn eR
            · rw [bi_n0.mp c52] at eR
              refine n_iinc dX10_fill_55 rfl ?_
              refine n_iinc dX10_fill_58 rfl ?_
              refine ms_goto (tgt := 6) dX10_fill_61 (by decide) ?_
              exact ih (i + 1) (p + 1) _ _ _ (by rw [vm_fil]; omega) hJ hJP hJO hJn eR
          · exact absurd c30 hne
        · rw [if_neg e] at hft
          obtain ⟨e1, e2⟩ := Prod.mk.inj (hR.trans (if_neg e))
          rw [e1, e2]
          refine ms_aload_n dX10_fill_17 rfl ?_
          refine q_getr dX10_fill_18 fX10_10 kd_10_0 (by first | decide | exact lt_sc (by omega) | exact lt_dy (by omega) | exact lt_rw (by omega) | exact lt_wa (by omega) | exact lt_le (by omega)) (by first | rfl | rw [sh_sc (by omega)] | rw [sh_dy (by omega)]) (by first | rfl | exact rf_wa (by omega) | exact rf_le (by omega) | exact rf_rw (by omega)) ?_
          refine ms_iload_n dX10_fill_21 rfl ?_
          refine qRV1 dX10_fill_22 kX10_234 (by show _ < 178; first | decide | exact lt_sc (by omega) | exact lt_dy (by omega)) (by show (sh0 _).1 = _; first | rfl | rw [sh_sc (by omega)] | rw [sh_dy (by omega)]) (d := d - 1) (by show d - 1 + 1 ≤ d; omega) rfl (Nat.le_of_ble_eq_true rfl) (Nat.le_of_ble_eq_true rfl) (hft) rfl ?_
          refine ms_istore dX10_fill_25 (Nat.le_of_ble_eq_true rfl) ?_
          refine ms_iload dX10_fill_27 rfl ?_
          refine ms_iconst (v := -1) dX10_fill_29 (by decide) ?_
          refine ms_icmp_ne (tgt := 35) dX10_fill_30 (by decide) (fun c30 => ?_) (fun c30 => ?_)
          · exact absurd rfl c30
          · refine ms_iload_n dX10_fill_33 rfl ?_
            refine ms_iret dX10_fill_34 rfl rfl ⟨?_, ?_⟩
            · rfl
            · rfl
  refine ms_iconst (v := nI 0) dX10_fill_0 (by decide) ?_
  refine ms_istore_n dX10_fill_1 (Nat.le_of_ble_eq_true rfl) ?_
  refine ms_iconst (v := nI 0) dX10_fill_2 (by decide) ?_
  refine ms_istore_n dX10_fill_3 (Nat.le_of_ble_eq_true rfl) ?_
  refine ms_iconst (v := nI 0) dX10_fill_4 (by decide) ?_
  refine ms_istore_n dX10_fill_5 (Nat.le_of_ble_eq_true rfl) ?_
  exact loop (vm I) 0 0 0 I _ (by omega) h hP hO hn hR

