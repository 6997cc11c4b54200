-- NAME places
/-! the reference: states, where a scene stands -/
/-- what 'in' tells of a number below a count -/
theorem inB_ix (x : Int32) {n : Nat} (hn : n < 1000) : (∃ j, j < n ∧ x = nI j ∧ inB x (nI 0) (nI n - nI 1) = true) ∨ ((∀ j, j < n → x ≠ nI j) ∧ inB x (nI 0) (nI n - nI 1) = false) := by
  rcases Nat.eq_zero_or_pos n with e | e
  · subst e
    refine Or.inr ⟨fun j hj => absurd hj (Nat.not_lt_zero j), decide_eq_false (fun z => ?_)⟩
    exact absurd (Int32.le_trans z.1 z.2) (by decide)
  · have es : nI n - nI 1 = nI (n - 1) := pk_sub e
    rw [es]
    rcases pk_ix x (n := n) (by omega) with q | q | ⟨j, hj, q⟩
    · refine Or.inr ⟨fun j hj z => ?_, decide_eq_false (fun z => Int32.not_lt.mpr z.1 q)⟩
      rw [z] at q
      exact absurd q (nI_pos (by omega))
    · refine Or.inr ⟨fun j hj z => ?_, decide_eq_false (fun z => ?_)⟩
      · rw [z] at q
        exact Int32.not_lt.mpr q ((nI_ltI (by omega) (by omega)).mpr hj)
      · exact Int32.not_lt.mpr (Int32.le_trans q z.2) ((nI_ltI (by omega) (by omega)).mpr (by omega))
    · refine Or.inl ⟨j, hj, q, decide_eq_true ⟨?_, ?_⟩⟩
      · rw [q]
        exact Int32.not_lt.mp (nI_pos (by omega))
      · rw [q]
        exact Int32.not_lt.mp (fun z => by have := (nI_ltI (by omega) (by omega)).mp z; omega)
def stR (I : m_I) (s : Nat) : Nat := stN (I 155 s) (I 156 s) (I 157 s) (I 159 s)
theorem kr_stateOf {S : m_S} {I : m_I} {lg : Int64} {d s : Nat} (hs : s < 20) : m_R S M_X11_stateOf d [.ref 143, .int (nI s)] (hh I lg) (some (.int (nI (stR I s)))) (hh I lg) := by
  refine ms_aload_n dX11_stateOf_0 rfl ?_
  refine q_getr dX11_stateOf_1 fX11_44 kd_11_15 (by first | decide | exact lt_sc (by omega) | exact lt_dy (by omega) | exact lt_rw (by omega) | exact lt_wa (by omega) | exact lt_le (by omega)) (by first | rfl | rw [sh_sc (by omega)] | rw [sh_dy (by omega)]) (by first | rfl | exact rf_wa (by omega) | exact rf_le (by omega) | exact rf_rw (by omega)) ?_
  refine ms_iload_n dX11_stateOf_4 rfl ?_
  refine q_zald dX11_stateOf_5 (by first | decide | exact lt_sc (by omega) | exact lt_dy (by omega) | exact lt_rw (by omega) | exact lt_wa (by omega) | exact lt_le (by omega)) (by first | rfl | exact sh_rw (by omega) | exact sh_wa (by omega) | exact sh_le (by omega)) (by omega) (by decide) rfl ?_
  refine ms_if_eq (tgt := 13) dX11_stateOf_6 (by decide) (fun c6 => ?_) (fun c6 => ?_)
  · refine ms_aload_n dX11_stateOf_13 rfl ?_
    refine q_getr dX11_stateOf_14 fX11_47 kd_11_16 (by first | decide | exact lt_sc (by omega) | exact lt_dy (by omega) | exact lt_rw (by omega) | exact lt_wa (by omega) | exact lt_le (by omega)) (by first | rfl | rw [sh_sc (by omega)] | rw [sh_dy (by omega)]) (by first | rfl | exact rf_wa (by omega) | exact rf_le (by omega) | exact rf_rw (by omega)) ?_
    refine ms_iload_n dX11_stateOf_17 rfl ?_
    refine q_zald dX11_stateOf_18 (by first | decide | exact lt_sc (by omega) | exact lt_dy (by omega) | exact lt_rw (by omega) | exact lt_wa (by omega) | exact lt_le (by omega)) (by first | rfl | exact sh_rw (by omega) | exact sh_wa (by omega) | exact sh_le (by omega)) (by omega) (by decide) rfl ?_
    refine ms_if_eq (tgt := 26) dX11_stateOf_19 (by decide) (fun c19 => ?_) (fun c19 => ?_)
    · refine ms_aload_n dX11_stateOf_26 rfl ?_
      refine q_getr dX11_stateOf_27 fX11_56 kd_11_19 (by first | decide | exact lt_sc (by omega) | exact lt_dy (by omega) | exact lt_rw (by omega) | exact lt_wa (by omega) | exact lt_le (by omega)) (by first | rfl | rw [sh_sc (by omega)] | rw [sh_dy (by omega)]) (by first | rfl | exact rf_wa (by omega) | exact rf_le (by omega) | exact rf_rw (by omega)) ?_
      refine ms_iload_n dX11_stateOf_30 rfl ?_
      refine q_iald dX11_stateOf_31 (by first | decide | exact lt_sc (by omega) | exact lt_dy (by omega) | exact lt_rw (by omega) | exact lt_wa (by omega) | exact lt_le (by omega)) (by first | rfl | exact sh_rw (by omega) | exact sh_wa (by omega) | exact sh_le (by omega)) (by omega) (by decide) rfl ?_
      refine ms_iconst (v := -1) dX11_stateOf_32 (by decide) ?_
      refine ms_icmp_eq (tgt := 40) dX11_stateOf_33 (by decide) (fun c33 => ?_) (fun c33 => ?_)
      · refine ms_aload_n dX11_stateOf_40 rfl ?_
        refine q_getr dX11_stateOf_41 fX11_50 kd_11_17 (by first | decide | exact lt_sc (by omega) | exact lt_dy (by omega) | exact lt_rw (by omega) | exact lt_wa (by omega) | exact lt_le (by omega)) (by first | rfl | rw [sh_sc (by omega)] | rw [sh_dy (by omega)]) (by first | rfl | exact rf_wa (by omega) | exact rf_le (by omega) | exact rf_rw (by omega)) ?_
        refine ms_iload_n dX11_stateOf_44 rfl ?_
        refine q_zald dX11_stateOf_45 (by first | decide | exact lt_sc (by omega) | exact lt_dy (by omega) | exact lt_rw (by omega) | exact lt_wa (by omega) | exact lt_le (by omega)) (by first | rfl | exact sh_rw (by omega) | exact sh_wa (by omega) | exact sh_le (by omega)) (by omega) (by decide) rfl ?_
        refine ms_if_eq (tgt := 53) dX11_stateOf_46 (by decide) (fun c46 => ?_) (fun c46 => ?_)
        · refine ms_iconst (v := nI 0) dX11_stateOf_53 (by decide) ?_
          refine ms_iret dX11_stateOf_54 rfl rfl ⟨?_, ?_⟩
          · simp_all [stR, stN]
          · rfl
        · refine ms_iconst (v := nI 3) dX11_stateOf_49 (by decide) ?_
          refine ms_goto (tgt := 54) dX11_stateOf_50 (by decide) ?_
          refine ms_iret dX11_stateOf_54 rfl rfl ⟨?_, ?_⟩
          · simp_all [stR, stN]
          · rfl
      · refine ms_iconst (v := nI 1) dX11_stateOf_36 (by decide) ?_
        refine ms_goto (tgt := 54) dX11_stateOf_37 (by decide) ?_
        refine ms_iret dX11_stateOf_54 rfl rfl ⟨?_, ?_⟩
        · simp_all [stR, stN]
        · rfl
    · refine ms_iconst (v := nI 2) dX11_stateOf_22 (by decide) ?_
      refine ms_goto (tgt := 54) dX11_stateOf_23 (by decide) ?_
      refine ms_iret dX11_stateOf_54 rfl rfl ⟨?_, ?_⟩
      · simp_all [stR, stN]
      · rfl
  · refine ms_iconst (v := nI 4) dX11_stateOf_9 (by decide) ?_
    refine ms_goto (tgt := 54) dX11_stateOf_10 (by decide) ?_
    refine ms_iret dX11_stateOf_54 rfl rfl ⟨?_, ?_⟩
    · simp_all [stR, stN]
    · rfl
theorem kr_owed {S : m_S} {I : m_I} {lg : Int64} {d m : Nat} (hd : 2 ≤ d) (hm : I 143 3 = nI m) (hm2 : m ≤ 20) : m_R S M_X11_owed d [.ref 143] (hh I lg) (some (.int (nI (fb_ct (fun i => decide (stR I i = 3)) m)))) (hh I lg) := by
  have loop : ∀ (q k : Nat), k ≤ m → m - k < q → m_W S (M_X11_owed, d, fun w9 g9 => w9 = some (.int (nI (fb_ct (fun i => decide (stR I i = 3)) m))) ∧ g9 = hh (I) lg, fun _ _ => False) 4 [some (.ref 143), some (.int (nI (fb_ct (fun i => decide (stR I i = 3)) k))), some (.int (nI k))] [] (hh (I) lg) 0 0 := by
    intro q
    induction q with
    | zero => intro k  _ h; omega
    | succ q ih =>
      intro k  hk hq
      refine ms_iload_n dX11_owed_4 rfl ?_
      refine ms_aload_n dX11_owed_5 rfl ?_
      refine q_geti dX11_owed_6 fX11_114 (by rw [kd_11_3]; decide) (by first | decide | exact lt_sc (by omega) | exact lt_dy (by omega) | exact lt_rw (by omega) | exact lt_wa (by omega) | exact lt_le (by omega)) (by first | rfl | rw [sh_sc (by omega)] | rw [sh_dy (by omega)]) hm ?_
      refine n_icmp_ge (tgt := 35) dX11_owed_9 (by decide) (by omega) (by omega) (fun c9 => ?_) (fun c9 => ?_)
      · obtain rfl : k = m := by omega
        refine ms_iload_n dX11_owed_35 rfl ?_
        refine ms_iret dX11_owed_36 rfl rfl ⟨?_, ?_⟩
        · rfl
        · rfl
      · have e : fb_ct (fun i => decide (stR I i = 3)) (k + 1) = fb_ct (fun i => decide (stR I i = 3)) k + if decide (stR I k = 3) then 1 else 0 := fb_ct_succ _ k
        have h9 := ih (k + 1) (by omega) (by omega)
        have hst : stR I k < 2 ^ 31 := by
          have : stR I k ≤ 4 := by
            unfold stR stN
            repeat' split
            all_goals decide
          omega
        refine ms_iload_n dX11_owed_12 rfl ?_
        refine ms_aload_n dX11_owed_13 rfl ?_
        refine ms_iload_n dX11_owed_14 rfl ?_
        refine qRV1 dX11_owed_15 kX11_214 (by show _ < 178; first | decide | exact lt_sc (by omega) | exact lt_dy (by omega)) (by show (sh0 _).1 = _; first | rfl | rw [sh_sc (by omega)] | rw [sh_dy (by omega)]) (d := d - 1) (by show d - 1 + 1 ≤ d; omega) rfl (Nat.le_of_ble_eq_true rfl) (Nat.le_of_ble_eq_true rfl) (kr_stateOf (by omega)) rfl ?_
        refine ms_iconst (v := nI 3) dX11_owed_18 (by decide) ?_
        refine n_icmp_ne (tgt := 26) dX11_owed_19 (by decide) (by omega) (by omega) (fun c19 => ?_) (fun c19 => ?_)
        · rw [e, decide_eq_false c19] at h9
          refine ms_iconst (v := nI 0) dX11_owed_26 (by decide) ?_
          refine n_iadd dX11_owed_27 ?_
          refine ms_istore_n dX11_owed_28 (Nat.le_of_ble_eq_true rfl) ?_
          refine n_iinc dX11_owed_29 rfl ?_
          refine ms_goto (tgt := 4) dX11_owed_32 (by decide) ?_
          exact h9
        · rw [e, decide_eq_true c19] at h9
          refine ms_iconst (v := nI 1) dX11_owed_22 (by decide) ?_
          refine ms_goto (tgt := 27) dX11_owed_23 (by decide) ?_
          refine n_iadd dX11_owed_27 ?_
          refine ms_istore_n dX11_owed_28 (Nat.le_of_ble_eq_true rfl) ?_
          refine n_iinc dX11_owed_29 rfl ?_
          refine ms_goto (tgt := 4) dX11_owed_32 (by decide) ?_
          exact h9
  refine ms_iconst (v := nI 0) dX11_owed_0 (by decide) ?_
  refine ms_istore_n dX11_owed_1 (Nat.le_of_ble_eq_true rfl) ?_
  refine ms_iconst (v := nI 0) dX11_owed_2 (by decide) ?_
  refine ms_istore_n dX11_owed_3 (Nat.le_of_ble_eq_true rfl) ?_
  exact loop (m + 1) 0 (by omega) (by omega)
theorem kr_placeIn {S : m_S} {I : m_I} {lg : Int64} {d s a : Nat} (ha : a < 20) (h1 : I 144 a = nI s) (h2 : ∀ j, j < a → I 144 j ≠ nI s) : m_R S M_X11_placeIn d [.ref 143, .int (nI s)] (hh I lg) (some (.int (nI a))) (hh I lg) := by
  have loop : ∀ (q k : Nat), k ≤ a → a - k < q → m_W S (M_X11_placeIn, d, fun w9 g9 => w9 = some (.int (nI a)) ∧ g9 = hh (I) lg, fun _ _ => False) 2 [some (.ref 143), some (.int (nI s)), some (.int (nI k))] [] (hh (I) lg) 0 0 := by
    intro q
    induction q with
    | zero => intro k  _ h; omega
    | succ q ih =>
      intro k  hk hq
      refine ms_aload_n dX11_placeIn_2 rfl ?_
      refine q_getr dX11_placeIn_3 fX11_7 kd_11_4 (by first | decide | exact lt_sc (by omega) | exact lt_dy (by omega) | exact lt_rw (by omega) | exact lt_wa (by omega) | exact lt_le (by omega)) (by first | rfl | rw [sh_sc (by omega)] | rw [sh_dy (by omega)]) (by first | rfl | exact rf_wa (by omega) | exact rf_le (by omega) | exact rf_rw (by omega)) ?_
      refine ms_iload_n dX11_placeIn_6 rfl ?_
      refine q_iald dX11_placeIn_7 (by first | decide | exact lt_sc (by omega) | exact lt_dy (by omega) | exact lt_rw (by omega) | exact lt_wa (by omega) | exact lt_le (by omega)) (by first | rfl | exact sh_rw (by omega) | exact sh_wa (by omega) | exact sh_le (by omega)) (by omega) (by decide) rfl ?_
      refine ms_iload_n dX11_placeIn_8 rfl ?_
      refine ms_icmp_eq (tgt := 18) dX11_placeIn_9 (by decide) (fun c9 => ?_) (fun c9 => ?_)
      · by_cases e : k = a
        · subst e
          refine ms_iload_n dX11_placeIn_18 rfl ?_
          refine ms_iret dX11_placeIn_19 rfl rfl ⟨?_, ?_⟩
          · rfl
          · rfl
        · exact absurd c9 (h2 k (by omega))
      · by_cases e : k = a
        · subst e
          exact absurd h1 c9
        · have h9 := ih (k + 1) (by omega) (by omega)
          refine n_iinc dX11_placeIn_12 rfl ?_
          refine ms_goto (tgt := 2) dX11_placeIn_15 (by decide) ?_
          exact h9
  refine ms_iconst (v := nI 0) dX11_placeIn_0 (by decide) ?_
  refine ms_istore_n dX11_placeIn_1 (Nat.le_of_ble_eq_true rfl) ?_
  exact loop (a + 1) 0 (by omega) (by omega)

