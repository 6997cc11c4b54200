-- NAME moves
/-! the board: on and off; what is told of days -/
theorem k_tellIll {S : m_S} {I : m_I} {lg : Int64} {d p t : Nat} (c : Bool) (hd : 2 ≤ d) (hp : p < 8) (ht : t < 30) : m_R S M_X0_tellIll d [.ref 72, .int (nI p), .int (nI t), .int (bi c)] (hh I lg) (some (.int (nI (fb_ct (fun i => bt ((m_up2 I (dyI t) 3 (wb (I (dyI t) 3) p c)) (dyI i) 3) p) 30)))) (hh (m_up2 I (dyI t) 3 (wb (I (dyI t) 3) p c)) lg) := by
  obtain ⟨J, hJ⟩ : ∃ J, J = m_up2 I (dyI t) 3 (wb (I (dyI t) 3) p c) := ⟨_, rfl⟩
  rw [← hJ]
  have loop : ∀ (q k : Nat), k ≤ 30 → 30 - k < q → m_W S (M_X0_tellIll, d, fun w9 g9 => w9 = some (.int (nI (fb_ct (fun i => bt (J (dyI i) 3) p) 30))) ∧ g9 = hh (J) lg, fun _ _ => False) 29 [some (.ref 72), some (.int (nI p)), some (.int (nI t)), some (.int (bi c)), some (.int (nI (fb_ct (fun i => bt (J (dyI i) 3) p) k))), some (.int (nI k))] [] (hh (J) lg) 0 0 := by
    intro q
    induction q with
    | zero => intro k  _ h; omega
    | succ q ih =>
      intro k  hk hq
      refine ms_iload dX0_tellIll_29 rfl ?_
      refine ms_bipush (v := nI 30) dX0_tellIll_31 (by decide) ?_
      refine n_icmp_ge (tgt := 62) dX0_tellIll_33 (by decide) (by omega) (by omega) (fun c33 => ?_) (fun c33 => ?_)
      · obtain rfl : k = 30 := by omega
        refine ms_iload dX0_tellIll_62 rfl ?_
        refine ms_iret dX0_tellIll_64 rfl rfl ⟨?_, ?_⟩
        · rfl
        · rfl
      · have e : fb_ct (fun i => bt (J (dyI i) 3) p) (k + 1) = fb_ct (fun i => bt (J (dyI i) 3) p) k + if bt (J (dyI k) 3) p then 1 else 0 := fb_ct_succ _ k
        have h9 := ih (k + 1) (by omega) (by omega)
        refine ms_aload_n dX0_tellIll_36 rfl ?_
        refine q_getr dX0_tellIll_37 fX0_20 kd_0_2 (by first | decide | exact lt_sc (by omega) | exact lt_dy (by omega) | exact lt_rw (by omega) | exact lt_wa (by omega) | exact lt_le (by omega)) (by first | rfl | rw [sh_sc (by omega)] | rw [sh_dy (by omega)]) (by first | rfl | exact rf_wa (by omega) | exact rf_le (by omega) | exact rf_rw (by omega)) ?_
        refine ms_iload dX0_tellIll_40 rfl ?_
        refine q_aald dX0_tellIll_42 (by first | exact Or.inl ⟨rfl, by omega, rfl⟩ | exact Or.inr ⟨rfl, by omega, rfl⟩) ?_
        refine q_geti dX0_tellIll_43 fX0_38 (by rw [kd_3_3]; decide) (by first | decide | exact lt_sc (by omega) | exact lt_dy (by omega) | exact lt_rw (by omega) | exact lt_wa (by omega) | exact lt_le (by omega)) (by first | rfl | rw [sh_sc (by omega)] | rw [sh_dy (by omega)]) rfl ?_
        refine ms_iload_n dX0_tellIll_46 rfl ?_
        refine qRN2 dX0_tellIll_47 kX0_46 (d := d - 1) (by show d - 1 + 1 ≤ d; omega) rfl rfl (Nat.le_of_ble_eq_true rfl) (Nat.le_of_ble_eq_true rfl) (k_hasBit (b := p) _ (by omega)) rfl ?_
        refine ms_if_eq (tgt := 56) dX0_tellIll_50 (by decide) (fun c50 => ?_) (fun c50 => ?_)
        · rw [e, bi_0.mp c50] at h9
          refine n_iinc dX0_tellIll_56 rfl ?_
          refine ms_goto (tgt := 29) dX0_tellIll_59 (by decide) ?_
          exact h9
        · rw [e, bi_n0.mp c50] at h9
          refine n_iinc dX0_tellIll_53 rfl ?_
          refine n_iinc dX0_tellIll_56 rfl ?_
          refine ms_goto (tgt := 29) dX0_tellIll_59 (by decide) ?_
          exact h9
  refine ms_aload_n dX0_tellIll_0 rfl ?_
  refine q_getr dX0_tellIll_1 fX0_20 kd_0_2 (by first | decide | exact lt_sc (by omega) | exact lt_dy (by omega) | exact lt_rw (by omega) | exact lt_wa (by omega) | exact lt_le (by omega)) (by first | rfl | rw [sh_sc (by omega)] | rw [sh_dy (by omega)]) (by first | rfl | exact rf_wa (by omega) | exact rf_le (by omega) | exact rf_rw (by omega)) ?_
  refine ms_iload_n dX0_tellIll_4 rfl ?_
  refine q_aald dX0_tellIll_5 (by first | exact Or.inl ⟨rfl, by omega, rfl⟩ | exact Or.inr ⟨rfl, by omega, rfl⟩) ?_
  refine ms_aload_n dX0_tellIll_6 rfl ?_
  refine q_getr dX0_tellIll_7 fX0_20 kd_0_2 (by first | decide | exact lt_sc (by omega) | exact lt_dy (by omega) | exact lt_rw (by omega) | exact lt_wa (by omega) | exact lt_le (by omega)) (by first | rfl | rw [sh_sc (by omega)] | rw [sh_dy (by omega)]) (by first | rfl | exact rf_wa (by omega) | exact rf_le (by omega) | exact rf_rw (by omega)) ?_
  refine ms_iload_n dX0_tellIll_10 rfl ?_
  refine q_aald dX0_tellIll_11 (by first | exact Or.inl ⟨rfl, by omega, rfl⟩ | exact Or.inr ⟨rfl, by omega, rfl⟩) ?_
  refine q_geti dX0_tellIll_12 fX0_38 (by rw [kd_3_3]; decide) (by first | decide | exact lt_sc (by omega) | exact lt_dy (by omega) | exact lt_rw (by omega) | exact lt_wa (by omega) | exact lt_le (by omega)) (by first | rfl | rw [sh_sc (by omega)] | rw [sh_dy (by omega)]) rfl ?_
  refine ms_iload_n dX0_tellIll_15 rfl ?_
  refine ms_iload_n dX0_tellIll_16 rfl ?_
  refine qRN3 dX0_tellIll_17 kX0_42 (d := d - 1) (by show d - 1 + 1 ≤ d; omega) rfl rfl rfl (Nat.le_of_ble_eq_true rfl) (Nat.le_of_ble_eq_true rfl) (k_withBit _ c) rfl ?_
  refine q_puti dX0_tellIll_20 fX0_38 pX0_3_3 kd_3_3 (by first | decide | exact lt_sc (by omega) | exact lt_dy (by omega) | exact lt_rw (by omega) | exact lt_wa (by omega) | exact lt_le (by omega)) (by first | rfl | rw [sh_sc (by omega)] | rw [sh_dy (by omega)]) ?_
  rw [← hJ]
  refine ms_iconst (v := nI 0) dX0_tellIll_23 (by decide) ?_
  refine ms_istore dX0_tellIll_24 (Nat.le_of_ble_eq_true rfl) ?_
  refine ms_iconst (v := nI 0) dX0_tellIll_26 (by decide) ?_
  refine ms_istore dX0_tellIll_27 (Nat.le_of_ble_eq_true rfl) ?_
  exact loop 31 0 (by omega) (by omega)
theorem k_tellAllowed {S : m_S} {I : m_I} {lg : Int64} {d p t : Nat} (c : Bool) (hd : 2 ≤ d) (hp : p < 6) (ht : t < 30) : m_R S M_X0_tellAllowed d [.ref 72, .int (nI p), .int (nI t), .int (bi c)] (hh I lg) (some (.int (nI (fb_ct (fun i => !bt ((m_up2 I (dyI t) 4 (wb (I (dyI t) 4) p (!c))) (dyI i) 4) p) 30)))) (hh (m_up2 I (dyI t) 4 (wb (I (dyI t) 4) p (!c))) lg) := by
  obtain ⟨J, hJ⟩ : ∃ J, J = m_up2 I (dyI t) 4 (wb (I (dyI t) 4) p (!c)) := ⟨_, rfl⟩
  rw [← hJ]
  have loop : ∀ (q k : Nat), k ≤ 30 → 30 - k < q → m_W S (M_X0_tellAllowed, d, fun w9 g9 => w9 = some (.int (nI (fb_ct (fun i => !bt (J (dyI i) 4) p) 30))) ∧ g9 = hh (J) lg, fun _ _ => False) 37 [some (.ref 72), some (.int (nI p)), some (.int (nI t)), some (.int (bi c)), some (.int (nI (fb_ct (fun i => !bt (J (dyI i) 4) p) k))), some (.int (nI k))] [] (hh (J) lg) 0 0 := by
    intro q
    induction q with
    | zero => intro k  _ h; omega
    | succ q ih =>
      intro k  hk hq
      refine ms_iload dX0_tellAllowed_37 rfl ?_
      refine ms_bipush (v := nI 30) dX0_tellAllowed_39 (by decide) ?_
      refine n_icmp_ge (tgt := 70) dX0_tellAllowed_41 (by decide) (by omega) (by omega) (fun c41 => ?_) (fun c41 => ?_)
      · obtain rfl : k = 30 := by omega
        refine ms_iload dX0_tellAllowed_70 rfl ?_
        refine ms_iret dX0_tellAllowed_72 rfl rfl ⟨?_, ?_⟩
        · rfl
        · rfl
      · have e : fb_ct (fun i => !bt (J (dyI i) 4) p) (k + 1) = fb_ct (fun i => !bt (J (dyI i) 4) p) k + if !bt (J (dyI k) 4) p then 1 else 0 := fb_ct_succ _ k
        have h9 := ih (k + 1) (by omega) (by omega)
        refine ms_aload_n dX0_tellAllowed_44 rfl ?_
        refine q_getr dX0_tellAllowed_45 fX0_20 kd_0_2 (by first | decide | exact lt_sc (by omega) | exact lt_dy (by omega) | exact lt_rw (by omega) | exact lt_wa (by omega) | exact lt_le (by omega)) (by first | rfl | rw [sh_sc (by omega)] | rw [sh_dy (by omega)]) (by first | rfl | exact rf_wa (by omega) | exact rf_le (by omega) | exact rf_rw (by omega)) ?_
        refine ms_iload dX0_tellAllowed_48 rfl ?_
        refine q_aald dX0_tellAllowed_50 (by first | exact Or.inl ⟨rfl, by omega, rfl⟩ | exact Or.inr ⟨rfl, by omega, rfl⟩) ?_
        refine q_geti dX0_tellAllowed_51 fX0_50 (by rw [kd_3_4]; decide) (by first | decide | exact lt_sc (by omega) | exact lt_dy (by omega) | exact lt_rw (by omega) | exact lt_wa (by omega) | exact lt_le (by omega)) (by first | rfl | rw [sh_sc (by omega)] | rw [sh_dy (by omega)]) rfl ?_
        refine ms_iload_n dX0_tellAllowed_54 rfl ?_
        refine qRN2 dX0_tellAllowed_55 kX0_46 (d := d - 1) (by show d - 1 + 1 ≤ d; omega) rfl rfl (Nat.le_of_ble_eq_true rfl) (Nat.le_of_ble_eq_true rfl) (k_hasBit (b := p) _ (by omega)) rfl ?_
        refine ms_if_ne (tgt := 64) dX0_tellAllowed_58 (by decide) (fun c58 => ?_) (fun c58 => ?_)
        · rw [e, bi_n0.mp c58] at h9
          refine n_iinc dX0_tellAllowed_64 rfl ?_
          refine ms_goto (tgt := 37) dX0_tellAllowed_67 (by decide) ?_
          exact h9
        · rw [e, bi_0.mp c58] at h9
          refine n_iinc dX0_tellAllowed_61 rfl ?_
          refine n_iinc dX0_tellAllowed_64 rfl ?_
          refine ms_goto (tgt := 37) dX0_tellAllowed_67 (by decide) ?_
          exact h9
  refine ms_aload_n dX0_tellAllowed_0 rfl ?_
  refine q_getr dX0_tellAllowed_1 fX0_20 kd_0_2 (by first | decide | exact lt_sc (by omega) | exact lt_dy (by omega) | exact lt_rw (by omega) | exact lt_wa (by omega) | exact lt_le (by omega)) (by first | rfl | rw [sh_sc (by omega)] | rw [sh_dy (by omega)]) (by first | rfl | exact rf_wa (by omega) | exact rf_le (by omega) | exact rf_rw (by omega)) ?_
  refine ms_iload_n dX0_tellAllowed_4 rfl ?_
  refine q_aald dX0_tellAllowed_5 (by first | exact Or.inl ⟨rfl, by omega, rfl⟩ | exact Or.inr ⟨rfl, by omega, rfl⟩) ?_
  refine ms_aload_n dX0_tellAllowed_6 rfl ?_
  refine q_getr dX0_tellAllowed_7 fX0_20 kd_0_2 (by first | decide | exact lt_sc (by omega) | exact lt_dy (by omega) | exact lt_rw (by omega) | exact lt_wa (by omega) | exact lt_le (by omega)) (by first | rfl | rw [sh_sc (by omega)] | rw [sh_dy (by omega)]) (by first | rfl | exact rf_wa (by omega) | exact rf_le (by omega) | exact rf_rw (by omega)) ?_
  refine ms_iload_n dX0_tellAllowed_10 rfl ?_
  refine q_aald dX0_tellAllowed_11 (by first | exact Or.inl ⟨rfl, by omega, rfl⟩ | exact Or.inr ⟨rfl, by omega, rfl⟩) ?_
  refine q_geti dX0_tellAllowed_12 fX0_50 (by rw [kd_3_4]; decide) (by first | decide | exact lt_sc (by omega) | exact lt_dy (by omega) | exact lt_rw (by omega) | exact lt_wa (by omega) | exact lt_le (by omega)) (by first | rfl | rw [sh_sc (by omega)] | rw [sh_dy (by omega)]) rfl ?_
  refine ms_iload_n dX0_tellAllowed_15 rfl ?_
  refine ms_iload_n dX0_tellAllowed_16 rfl ?_
  refine ms_if_ne (tgt := 24) dX0_tellAllowed_17 (by decide) (fun c17 => ?_) (fun c17 => ?_)
  · have e := bi_n0.mp c17
    rw [e] at hJ
    refine ms_iconst (v := nI 0) dX0_tellAllowed_24 (by decide) ?_
    refine qRN3 dX0_tellAllowed_25 kX0_42 (d := d - 1) (by show d - 1 + 1 ≤ d; omega) rfl rfl rfl (Nat.le_of_ble_eq_true rfl) (Nat.le_of_ble_eq_true rfl) (k_withBit _ false) rfl ?_
    refine q_puti dX0_tellAllowed_28 fX0_50 pX0_3_4 kd_3_4 (by first | decide | exact lt_sc (by omega) | exact lt_dy (by omega) | exact lt_rw (by omega) | exact lt_wa (by omega) | exact lt_le (by omega)) (by first | rfl | rw [sh_sc (by omega)] | rw [sh_dy (by omega)]) ?_
    rw [show m_up2 I (dyI t) 4 (wb (I (dyI t) 4) p false) = J from hJ.symm]
    refine ms_iconst (v := nI 0) dX0_tellAllowed_31 (by decide) ?_
    refine ms_istore dX0_tellAllowed_32 (Nat.le_of_ble_eq_true rfl) ?_
    refine ms_iconst (v := nI 0) dX0_tellAllowed_34 (by decide) ?_
    refine ms_istore dX0_tellAllowed_35 (Nat.le_of_ble_eq_true rfl) ?_
    exact loop 31 0 (by omega) (by omega)
  · have e := bi_0.mp c17
    rw [e] at hJ
    refine ms_iconst (v := nI 1) dX0_tellAllowed_20 (by decide) ?_
    refine ms_goto (tgt := 25) dX0_tellAllowed_21 (by decide) ?_
    refine qRN3 dX0_tellAllowed_25 kX0_42 (d := d - 1) (by show d - 1 + 1 ≤ d; omega) rfl rfl rfl (Nat.le_of_ble_eq_true rfl) (Nat.le_of_ble_eq_true rfl) (k_withBit _ true) rfl ?_
    refine q_puti dX0_tellAllowed_28 fX0_50 pX0_3_4 kd_3_4 (by first | decide | exact lt_sc (by omega) | exact lt_dy (by omega) | exact lt_rw (by omega) | exact lt_wa (by omega) | exact lt_le (by omega)) (by first | rfl | rw [sh_sc (by omega)] | rw [sh_dy (by omega)]) ?_
    rw [show m_up2 I (dyI t) 4 (wb (I (dyI t) 4) p true) = J from hJ.symm]
    refine ms_iconst (v := nI 0) dX0_tellAllowed_31 (by decide) ?_
    refine ms_istore dX0_tellAllowed_32 (Nat.le_of_ble_eq_true rfl) ?_
    refine ms_iconst (v := nI 0) dX0_tellAllowed_34 (by decide) ?_
    refine ms_istore dX0_tellAllowed_35 (Nat.le_of_ble_eq_true rfl) ?_
    exact loop 31 0 (by omega) (by omega)
def puI (I : m_I) (s t at' n : Nat) : m_I := m_up2 (m_up2 (m_up2 (shI I (rwI t) at' n) (rwI t) at' (nI s)) (dyI t) 6 (nI (n + 1))) (scI s) 15 (nI t)
def toI (I : m_I) (s t j n : Nat) : m_I := m_up2 (m_up2 (deI I (rwI t) j n) (dyI t) 6 (nI (n - 1))) (scI s) 15 (-1)
theorem k_putOn {S : m_S} {I : m_I} {lg : Int64} {d s t n at' : Nat} (hd : 2 ≤ d) (hs : s < 20) (ht : t < 30) (hn : I (dyI t) 6 = nI n) (hn2 : n < 8) (ha : at' ≤ n) : m_R S M_X0_putOn d [.ref 72, .int (nI s), .int (nI t), .int (nI at')] (hh I lg) none (hh (puI I s t at' n) lg) := by
  refine ms_aload_n dX0_putOn_0 rfl ?_
  refine q_getr dX0_putOn_1 fX0_20 kd_0_2 (by first | decide | exact lt_sc (by omega) | exact lt_dy (by omega) | exact lt_rw (by omega) | exact lt_wa (by omega) | exact lt_le (by omega)) (by first | rfl | rw [sh_sc (by omega)] | rw [sh_dy (by omega)]) (by first | rfl | exact rf_wa (by omega) | exact rf_le (by omega) | exact rf_rw (by omega)) ?_
  refine ms_iload_n dX0_putOn_4 rfl ?_
  refine q_aald dX0_putOn_5 (by first | exact Or.inl ⟨rfl, by omega, rfl⟩ | exact Or.inr ⟨rfl, by omega, rfl⟩) ?_
  refine ms_iload_n dX0_putOn_6 rfl ?_
  refine ms_iload_n dX0_putOn_7 rfl ?_
  refine qRV2 dX0_putOn_8 kX0_53 (by show _ < 178; first | decide | exact lt_sc (by omega) | exact lt_dy (by omega)) (by show (sh0 _).1 = _; first | rfl | rw [sh_sc (by omega)] | rw [sh_dy (by omega)]) (d := d - 1) (by show d - 1 + 1 ≤ d; omega) rfl rfl (Nat.le_of_ble_eq_true rfl) (Nat.le_of_ble_eq_true rfl) (k_insert ht hn hn2 ha _) rfl ?_
  refine ms_aload_n dX0_putOn_11 rfl ?_
  refine q_getr dX0_putOn_12 fX0_24 kd_0_0 (by first | decide | exact lt_sc (by omega) | exact lt_dy (by omega) | exact lt_rw (by omega) | exact lt_wa (by omega) | exact lt_le (by omega)) (by first | rfl | rw [sh_sc (by omega)] | rw [sh_dy (by omega)]) (by first | rfl | exact rf_wa (by omega) | exact rf_le (by omega) | exact rf_rw (by omega)) ?_
  refine q_getr dX0_putOn_15 fX0_57 kd_9_0 (by first | decide | exact lt_sc (by omega) | exact lt_dy (by omega) | exact lt_rw (by omega) | exact lt_wa (by omega) | exact lt_le (by omega)) (by first | rfl | rw [sh_sc (by omega)] | rw [sh_dy (by omega)]) (by first | rfl | exact rf_wa (by omega) | exact rf_le (by omega) | exact rf_rw (by omega)) ?_
  refine ms_iload_n dX0_putOn_18 rfl ?_
  refine q_aald dX0_putOn_19 (by first | exact Or.inl ⟨rfl, by omega, rfl⟩ | exact Or.inr ⟨rfl, by omega, rfl⟩) ?_
  refine ms_iload_n dX0_putOn_20 rfl ?_
  refine q_puti dX0_putOn_21 fX0_63 pX0_8_15 kd_8_15 (by first | decide | exact lt_sc (by omega) | exact lt_dy (by omega) | exact lt_rw (by omega) | exact lt_wa (by omega) | exact lt_le (by omega)) (by first | rfl | rw [sh_sc (by omega)] | rw [sh_dy (by omega)]) ?_
  refine ms_vret dX0_putOn_24 rfl rfl ⟨rfl, ?_⟩
  · rfl
theorem k_takeOff0 {S : m_S} {I : m_I} {lg : Int64} {d s : Nat} (hs : s < 20) (hdy : I (scI s) 15 = -1) : m_R S M_X0_takeOff d [.ref 72, .int (nI s)] (hh I lg) none (hh I lg) := by
  refine ms_aload_n dX0_takeOff_0 rfl ?_
  refine q_getr dX0_takeOff_1 fX0_24 kd_0_0 (by first | decide | exact lt_sc (by omega) | exact lt_dy (by omega) | exact lt_rw (by omega) | exact lt_wa (by omega) | exact lt_le (by omega)) (by first | rfl | rw [sh_sc (by omega)] | rw [sh_dy (by omega)]) (by first | rfl | exact rf_wa (by omega) | exact rf_le (by omega) | exact rf_rw (by omega)) ?_
  refine q_getr dX0_takeOff_4 fX0_57 kd_9_0 (by first | decide | exact lt_sc (by omega) | exact lt_dy (by omega) | exact lt_rw (by omega) | exact lt_wa (by omega) | exact lt_le (by omega)) (by first | rfl | rw [sh_sc (by omega)] | rw [sh_dy (by omega)]) (by first | rfl | exact rf_wa (by omega) | exact rf_le (by omega) | exact rf_rw (by omega)) ?_
  refine ms_iload_n dX0_takeOff_7 rfl ?_
  refine q_aald dX0_takeOff_8 (by first | exact Or.inl ⟨rfl, by omega, rfl⟩ | exact Or.inr ⟨rfl, by omega, rfl⟩) ?_
  refine ms_astore_n dX0_takeOff_9 (Nat.le_of_ble_eq_true rfl) ?_
  refine ms_aload_n dX0_takeOff_10 rfl ?_
  refine q_geti dX0_takeOff_11 fX0_63 (by rw [kd_8_15]; decide) (by first | decide | exact lt_sc (by omega) | exact lt_dy (by omega) | exact lt_rw (by omega) | exact lt_wa (by omega) | exact lt_le (by omega)) (by first | rfl | rw [sh_sc (by omega)] | rw [sh_dy (by omega)]) (by first | assumption | ((repeat ((with_reducible apply m_up2_tr); · first | omega | (intro z; (try unfold scI at z); (try unfold dyI at z); (try unfold rwI at z); (try unfold waI at z); (try unfold leI at z); omega))); first | assumption | exact m_up2_eq | rfl)) ?_
  refine ms_iconst (v := -1) dX0_takeOff_14 (by decide) ?_
  refine ms_icmp_ne (tgt := 19) dX0_takeOff_15 (by decide) (fun c15 => ?_) (fun c15 => ?_)
  · exact absurd rfl c15
  · refine ms_vret dX0_takeOff_18 rfl rfl ⟨rfl, ?_⟩
    · rfl
theorem k_takeOff {S : m_S} {I : m_I} {lg : Int64} {d s t n j : Nat} (hd : 2 ≤ d) (hs : s < 20) (ht : t < 30) (hdy : I (scI s) 15 = nI t) (hn : I (dyI t) 6 = nI n) (hn2 : n ≤ 8) (hj : j < n) (hjs : I (rwI t) j = nI s) (hne : ∀ i, i < n → i ≠ j → I (rwI t) i ≠ nI s) : m_R S M_X0_takeOff d [.ref 72, .int (nI s)] (hh I lg) none (hh (toI I s t j n) lg) := by
  refine ms_aload_n dX0_takeOff_0 rfl ?_
  refine q_getr dX0_takeOff_1 fX0_24 kd_0_0 (by first | decide | exact lt_sc (by omega) | exact lt_dy (by omega) | exact lt_rw (by omega) | exact lt_wa (by omega) | exact lt_le (by omega)) (by first | rfl | rw [sh_sc (by omega)] | rw [sh_dy (by omega)]) (by first | rfl | exact rf_wa (by omega) | exact rf_le (by omega) | exact rf_rw (by omega)) ?_
  refine q_getr dX0_takeOff_4 fX0_57 kd_9_0 (by first | decide | exact lt_sc (by omega) | exact lt_dy (by omega) | exact lt_rw (by omega) | exact lt_wa (by omega) | exact lt_le (by omega)) (by first | rfl | rw [sh_sc (by omega)] | rw [sh_dy (by omega)]) (by first | rfl | exact rf_wa (by omega) | exact rf_le (by omega) | exact rf_rw (by omega)) ?_
  refine ms_iload_n dX0_takeOff_7 rfl ?_
  refine q_aald dX0_takeOff_8 (by first | exact Or.inl ⟨rfl, by omega, rfl⟩ | exact Or.inr ⟨rfl, by omega, rfl⟩) ?_
  refine ms_astore_n dX0_takeOff_9 (Nat.le_of_ble_eq_true rfl) ?_
  refine ms_aload_n dX0_takeOff_10 rfl ?_
  refine q_geti dX0_takeOff_11 fX0_63 (by rw [kd_8_15]; decide) (by first | decide | exact lt_sc (by omega) | exact lt_dy (by omega) | exact lt_rw (by omega) | exact lt_wa (by omega) | exact lt_le (by omega)) (by first | rfl | rw [sh_sc (by omega)] | rw [sh_dy (by omega)]) (by first | assumption | ((repeat ((with_reducible apply m_up2_tr); · first | omega | (intro z; (try unfold scI at z); (try unfold dyI at z); (try unfold rwI at z); (try unfold waI at z); (try unfold leI at z); omega))); first | assumption | exact m_up2_eq | rfl)) ?_
  refine ms_iconst (v := -1) dX0_takeOff_14 (by decide) ?_
  refine ms_icmp_ne (tgt := 19) dX0_takeOff_15 (by decide) (fun c15 => ?_) (fun c15 => ?_)
  · refine ms_aload_n dX0_takeOff_19 rfl ?_
    refine q_getr dX0_takeOff_20 fX0_20 kd_0_2 (by first | decide | exact lt_sc (by omega) | exact lt_dy (by omega) | exact lt_rw (by omega) | exact lt_wa (by omega) | exact lt_le (by omega)) (by first | rfl | rw [sh_sc (by omega)] | rw [sh_dy (by omega)]) (by first | rfl | exact rf_wa (by omega) | exact rf_le (by omega) | exact rf_rw (by omega)) ?_
    refine ms_aload_n dX0_takeOff_23 rfl ?_
    refine q_geti dX0_takeOff_24 fX0_63 (by rw [kd_8_15]; decide) (by first | decide | exact lt_sc (by omega) | exact lt_dy (by omega) | exact lt_rw (by omega) | exact lt_wa (by omega) | exact lt_le (by omega)) (by first | rfl | rw [sh_sc (by omega)] | rw [sh_dy (by omega)]) (by first | assumption | ((repeat ((with_reducible apply m_up2_tr); · first | omega | (intro z; (try unfold scI at z); (try unfold dyI at z); (try unfold rwI at z); (try unfold waI at z); (try unfold leI at z); omega))); first | assumption | exact m_up2_eq | rfl)) ?_
    refine q_aald dX0_takeOff_27 (by first | exact Or.inl ⟨rfl, by omega, rfl⟩ | exact Or.inr ⟨rfl, by omega, rfl⟩) ?_
    refine ms_iload_n dX0_takeOff_28 rfl ?_
    refine qRV1 dX0_takeOff_29 kX0_68 (by show _ < 178; first | decide | exact lt_sc (by omega) | exact lt_dy (by omega)) (by show (sh0 _).1 = _; first | rfl | rw [sh_sc (by omega)] | rw [sh_dy (by omega)]) (d := d - 1) (by show d - 1 + 1 ≤ d; omega) rfl (Nat.le_of_ble_eq_true rfl) (Nat.le_of_ble_eq_true rfl) (k_remove ht hn hn2 hj hs hjs hne) rfl ?_
    refine ms_aload_n dX0_takeOff_32 rfl ?_
    refine ms_iconst (v := -1) dX0_takeOff_33 (by decide) ?_
    refine q_puti dX0_takeOff_34 fX0_63 pX0_8_15 kd_8_15 (by first | decide | exact lt_sc (by omega) | exact lt_dy (by omega) | exact lt_rw (by omega) | exact lt_wa (by omega) | exact lt_le (by omega)) (by first | rfl | rw [sh_sc (by omega)] | rw [sh_dy (by omega)]) ?_
    refine ms_vret dX0_takeOff_37 rfl rfl ⟨rfl, ?_⟩
    · rfl
  · have h0 := nI_pos (n := t) (by omega)
    rw [c15] at h0
    exact absurd (by decide) h0
/-! the end of a day -/
/-- behind j scenes of the row, from its end: what stands, and how many the row has -/
def edS (I : m_I) (t : Nat) (w : Nat → Nat) (n : Nat) : Nat → m_I × Nat
  | 0 => (I, n)
  | j + 1 => if (edS I t w n j).1 (scI (w (n - 1 - j))) 12 = 0 then (toI (m_up2 (edS I t w n j).1 (scI (w (n - 1 - j))) 13 (nI 1)) (w (n - 1 - j)) t (n - 1 - j) (edS I t w n j).2, (edS I t w n j).2 - 1) else edS I t w n j
theorem toI_ne {I : m_I} {s t j n a b : Nat} (h : a ≠ rwI t) (h2 : ¬ (a = dyI t ∧ b = 6)) (h3 : ¬ (a = scI s ∧ b = 15)) : toI I s t j n a b = I a b := (m_up2_ne h3).trans ((m_up2_ne h2).trans (deI_ne h))
theorem edS_inv {I : m_I} {t n : Nat} {w : Nat → Nat} (ht : t < 30) (hn : I (dyI t) 6 = nI n) (hw : ∀ i, i < n → I (rwI t) i = nI (w i) ∧ w i < 20) (hinj : ∀ i j, i < n → j < n → w i = w j → i = j) : ∀ j, j ≤ n →
    n - j ≤ (edS I t w n j).2 ∧ (edS I t w n j).2 ≤ n ∧ (edS I t w n j).1 (dyI t) 6 = nI (edS I t w n j).2 ∧ (∀ i, i < n - j → (edS I t w n j).1 (rwI t) i = nI (w i)) ∧ (∀ i, n - j ≤ i → i < (edS I t w n j).2 → ∃ i', n - j ≤ i' ∧ i' < n ∧ (edS I t w n j).1 (rwI t) i = nI (w i')) ∧
    (∀ i b, i < n - j → (edS I t w n j).1 (scI (w i)) b = I (scI (w i)) b) ∧ (∀ a b, a ≠ rwI t → a ≠ dyI t → (∀ s, s < 20 → a ≠ scI s) → (edS I t w n j).1 a b = I a b) ∧ (∀ s b, s < 20 → b ≠ 13 → b ≠ 15 → (edS I t w n j).1 (scI s) b = I (scI s) b) := by
  intro j
  induction j with
  | zero => exact fun _ => ⟨Nat.le_refl _, Nat.le_refl _, hn, fun i hi => (hw i hi).1, fun i h1 h2 => absurd h2 (Nat.not_lt.mpr h1), fun _ _ _ => rfl, fun _ _ _ _ _ => rfl, fun _ _ _ _ _ => rfl⟩
  | succ j ih =>
    intro hj
    obtain ⟨h1, h2, h3, h4, h5, h6, h7, h8⟩ := ih (by omega)
    obtain ⟨p, hp⟩ : ∃ z, z = n - 1 - j := ⟨_, rfl⟩
    rcases hE : edS I t w n j with ⟨H, c⟩
    rw [hE] at h1 h2 h3 h4 h5 h6 h7 h8
    dsimp only at h1 h2 h3 h4 h5 h6 h7 h8
    have hpn : p < n := by omega
    have hwp := (hw p hpn).2
    have e0 : edS I t w n (j + 1) = if H (scI (w p)) 12 = 0 then (toI (m_up2 H (scI (w p)) 13 (nI 1)) (w p) t p c, c - 1) else (H, c) := by
      conv => lhs; unfold edS
      rw [hE, hp]
    by_cases hsh : H (scI (w p)) 12 = 0
    · have e : edS I t w n (j + 1) = (toI (m_up2 H (scI (w p)) 13 (nI 1)) (w p) t p c, c - 1) := e0.trans (if_pos hsh)
      rw [e]
      have hr : ∀ i, (m_up2 H (scI (w p)) 13 (nI 1)) (rwI t) i = H (rwI t) i := fun i => m_up2_ne (by unfold scI rwI; omega)
      have ht1 : ∀ i, toI (m_up2 H (scI (w p)) 13 (nI 1)) (w p) t p c (rwI t) i = deI (m_up2 H (scI (w p)) 13 (nI 1)) (rwI t) p c (rwI t) i := fun i => (m_up2_ne (by unfold scI rwI; omega)).trans (m_up2_ne (by unfold dyI rwI; omega))
      refine ⟨by show n - (j + 1) ≤ c - 1; omega, by show c - 1 ≤ n; omega, ?_, fun i hi => ?_, fun i hi1 hi2 => ?_, fun i b hi => ?_, fun a b ha1 ha2 ha3 => ?_, fun s b hs hb1 hb2 => ?_⟩
      · exact (m_up2_ne (by unfold scI dyI; omega)).trans m_up2_eq
      · show toI _ _ _ _ _ _ _ = _
        rw [ht1, deI_lo (by omega), hr]
        exact h4 i (by omega)
      · have hi2' : i < c - 1 := hi2
        show ∃ i', _ ∧ _ ∧ toI _ _ _ _ _ _ _ = _
        rw [ht1, deI_in (by omega) (by omega), hr]
        rcases Nat.lt_or_ge (i + 1) (n - j) with q | q
        · exact ⟨i + 1, by omega, by omega, h4 (i + 1) q⟩
        · obtain ⟨i', z1, z2, z3⟩ := h5 (i + 1) q (by omega)
          exact ⟨i', by omega, z2, z3⟩
      · have hne : w i ≠ w p := fun z => by have := hinj i p (by omega) hpn z; omega
        have hwi := (hw i (by omega)).2
        show toI _ _ _ _ _ _ _ = _
        rw [toI_ne (by unfold scI rwI; omega) (by unfold scI dyI; omega) (by unfold scI; omega), m_up2_ne (by unfold scI; omega)]
        exact h6 i b (by omega)
      · show toI _ _ _ _ _ _ _ = _
        rw [toI_ne ha1 (fun z => ha2 z.1) (fun z => ha3 _ hwp z.1), m_up2_ne (fun z => ha3 _ hwp z.1)]
        exact h7 a b ha1 ha2 ha3
      · show toI _ _ _ _ _ _ _ = _
        rw [toI_ne (by unfold scI rwI; omega) (by unfold scI dyI; omega) (fun z => hb2 z.2), m_up2_ne (fun z => hb1 z.2)]
        exact h8 s b hs hb1 hb2
    · have e : edS I t w n (j + 1) = (H, c) := e0.trans (if_neg hsh)
      rw [e]
      refine ⟨by show n - (j + 1) ≤ c; omega, h2, h3, fun i hi => h4 i (by omega), fun i hi1 hi2 => ?_, fun i b hi => h6 i b (by omega), h7, h8⟩
      have hi2' : i < c := hi2
      rcases Nat.lt_or_ge i (n - j) with q | q
      · exact ⟨i, by omega, by omega, h4 i q⟩
      · obtain ⟨i', z1, z2, z3⟩ := h5 i q hi2'
        exact ⟨i', by omega, z2, z3⟩
theorem k_endDay {S : m_S} {I : m_I} {lg : Int64} {d t n : Nat} {w : Nat → Nat} (hd : 3 ≤ d) (hnow : I 72 4 = nI t) (ht : t < 29) (hn : I (dyI t) 6 = nI n) (hn2 : n ≤ 8) (hw : ∀ i, i < n → I (rwI t) i = nI (w i) ∧ w i < 20) (hinj : ∀ i j, i < n → j < n → w i = w j → i = j) (hdy : ∀ i, i < n → I (scI (w i)) 15 = nI t) : m_R S M_X0_endDay d [.ref 72] (hh I lg) none (hh (m_up2 (edS I t w n n).1 72 4 (nI (t + 1))) lg) := by
  have loop : ∀ (q j : Nat) (d3 : Option Value), j ≤ n → n - j < q → m_W S (M_X0_endDay, d, fun w9 g => w9 = none ∧ g = hh (m_up2 (edS I t w n n).1 72 4 (nI (t + 1))) lg, fun _ _ => False) 17 [some (.ref 72), some (.ref (dyI t)), some (.int (nI (n - j) - nI 1)), d3] [] (hh (edS I t w n j).1 lg) 0 0 := by
    intro q
    induction q with
    | zero => intro j _ _ h; omega
    | succ q ih =>
      intro j d3 hj hq
      obtain ⟨h1, h2, h3, h4, h5, h6, h7, h8⟩ := edS_inv (by omega) hn hw hinj j hj
      have hnow' : (edS I t w n j).1 72 4 = nI t := (h7 72 4 (by unfold rwI; omega) (by unfold dyI; omega) (fun s hs => by unfold scI; omega)).trans hnow
      rcases Nat.eq_or_lt_of_le hj with hjn | hjn
      · subst hjn
        rw [Nat.sub_self]
        refine ms_iload_n dX0_endDay_17 rfl ?_
        refine ms_if_lt (tgt := 64) dX0_endDay_18 (by decide) (fun c18 => ?_) (fun c18 => ?_)
        · refine ms_aload_n dX0_endDay_64 rfl ?_
          refine ms_dup dX0_endDay_65 rfl ?_
          refine q_geti dX0_endDay_66 fX0_72 (by rw [kd_0_4]; decide) (by first | decide | exact lt_sc (by omega) | exact lt_dy (by omega) | exact lt_rw (by omega) | exact lt_wa (by omega) | exact lt_le (by omega)) (by first | rfl | rw [sh_sc (by omega)] | rw [sh_dy (by omega)]) (by first | assumption | ((repeat ((with_reducible apply m_up2_tr); · first | omega | (intro z; (try unfold scI at z); (try unfold dyI at z); (try unfold rwI at z); (try unfold waI at z); (try unfold leI at z); omega))); first | assumption | exact m_up2_eq | rfl)) ?_
          refine ms_iconst (v := nI 1) dX0_endDay_69 (by decide) ?_
          refine n_iadd dX0_endDay_70 ?_
          refine q_puti dX0_endDay_71 fX0_72 pX0_0_4 kd_0_4 (by first | decide | exact lt_sc (by omega) | exact lt_dy (by omega) | exact lt_rw (by omega) | exact lt_wa (by omega) | exact lt_le (by omega)) (by first | rfl | rw [sh_sc (by omega)] | rw [sh_dy (by omega)]) ?_
          refine ms_vret dX0_endDay_74 rfl rfl ⟨rfl, ?_⟩
          · rfl
        · exact absurd (by decide) c18
      · obtain ⟨p, hp⟩ : ∃ z, z = n - 1 - j := ⟨_, rfl⟩
        have hp1 : n - j = p + 1 := by omega
        have hnx : n - (j + 1) = p := by omega
        rw [hp1, show nI (p + 1) - nI 1 = nI p from pk_sub (by omega)]
        have h9 := fun d3 => ih (j + 1) d3 (by omega) (by omega)
        rw [hnx] at h9
        have hr := h4 p (by omega)
        obtain ⟨hw1, hw2⟩ := hw p (by omega)
        have back : ∀ H : m_I, H = (edS I t w n (j + 1)).1 → ∀ d3, m_W S (M_X0_endDay, d, fun w9 g => w9 = none ∧ g = hh (m_up2 (edS I t w n n).1 72 4 (nI (t + 1))) lg, fun _ _ => False) 58 [some (.ref 72), some (.ref (dyI t)), some (.int (nI p)), d3] [] (hh H lg) 0 0 := by
          intro H hH d3
          refine ms_iinc dX0_endDay_58 rfl (pdec p) ?_
          refine ms_goto (tgt := 17) dX0_endDay_61 (by decide) ?_
          rw [hH]
          exact h9 d3
        refine ms_iload_n dX0_endDay_17 rfl ?_
        refine ms_if_lt (tgt := 64) dX0_endDay_18 (by decide) (fun c18 => ?_) (fun c18 => ?_)
        · exact absurd c18 (nI_pos (by omega))
        · refine ms_aload_n dX0_endDay_21 rfl ?_
          refine q_getr dX0_endDay_22 fX0_24 kd_0_0 (by first | decide | exact lt_sc (by omega) | exact lt_dy (by omega) | exact lt_rw (by omega) | exact lt_wa (by omega) | exact lt_le (by omega)) (by first | rfl | rw [sh_sc (by omega)] | rw [sh_dy (by omega)]) (by first | rfl | exact rf_wa (by omega) | exact rf_le (by omega) | exact rf_rw (by omega)) ?_
          refine q_getr dX0_endDay_25 fX0_57 kd_9_0 (by first | decide | exact lt_sc (by omega) | exact lt_dy (by omega) | exact lt_rw (by omega) | exact lt_wa (by omega) | exact lt_le (by omega)) (by first | rfl | rw [sh_sc (by omega)] | rw [sh_dy (by omega)]) (by first | rfl | exact rf_wa (by omega) | exact rf_le (by omega) | exact rf_rw (by omega)) ?_
          refine ms_aload_n dX0_endDay_28 rfl ?_
          refine q_getr dX0_endDay_29 fX0_78 kd_3_5 (by first | decide | exact lt_sc (by omega) | exact lt_dy (by omega) | exact lt_rw (by omega) | exact lt_wa (by omega) | exact lt_le (by omega)) (by first | rfl | rw [sh_sc (by omega)] | rw [sh_dy (by omega)]) (by first | rfl | exact rf_wa (by omega) | exact rf_le (by omega) | exact rf_rw (by omega)) ?_
          refine ms_iload_n dX0_endDay_32 rfl ?_
          refine q_iald dX0_endDay_33 (by first | decide | exact lt_sc (by omega) | exact lt_dy (by omega) | exact lt_rw (by omega) | exact lt_wa (by omega) | exact lt_le (by omega)) (by first | rfl | exact sh_rw (by omega) | exact sh_wa (by omega) | exact sh_le (by omega)) (by omega) (by decide) (by first | assumption | ((repeat ((with_reducible apply m_up2_tr); · first | omega | (intro z; (try unfold scI at z); (try unfold dyI at z); (try unfold rwI at z); (try unfold waI at z); (try unfold leI at z); omega))); first | assumption | exact m_up2_eq | rfl)) ?_
          refine q_aald dX0_endDay_34 (by first | exact Or.inl ⟨rfl, by omega, rfl⟩ | exact Or.inr ⟨rfl, by omega, rfl⟩) ?_
          refine ms_astore_n dX0_endDay_35 (Nat.le_of_ble_eq_true rfl) ?_
          refine ms_aload_n dX0_endDay_36 rfl ?_
          refine q_geti dX0_endDay_37 fX0_82 (by rw [kd_8_12]; decide) (by first | decide | exact lt_sc (by omega) | exact lt_dy (by omega) | exact lt_rw (by omega) | exact lt_wa (by omega) | exact lt_le (by omega)) (by first | rfl | rw [sh_sc (by omega)] | rw [sh_dy (by omega)]) rfl ?_
          refine ms_if_ne (tgt := 58) dX0_endDay_40 (by decide) (fun c40 => ?_) (fun c40 => ?_)
          · refine back _ ?_ _
            have e : edS I t w n (j + 1) = edS I t w n j := by
              conv => lhs; unfold edS
              rw [← hp, if_neg c40]
            rw [e]
          · have e : edS I t w n (j + 1) = (toI (m_up2 (edS I t w n j).1 (scI (w p)) 13 (nI 1)) (w p) t p (edS I t w n j).2, (edS I t w n j).2 - 1) := by
              conv => lhs; unfold edS
              rw [← hp, if_pos c40]
            obtain ⟨J, hJ⟩ : ∃ J, J = m_up2 (edS I t w n j).1 (scI (w p)) 13 (nI 1) := ⟨_, rfl⟩
            have hJr : ∀ i, J (rwI t) i = (edS I t w n j).1 (rwI t) i := fun i => by rw [hJ]; exact m_up2_ne (by unfold scI rwI; omega)
            have hJ1 : J (scI (w p)) 15 = nI t := by rw [hJ, m_up2_ne (by omega), h6 p 15 (by omega)]; exact hdy p (by omega)
            have hJ2 : J (dyI t) 6 = nI (edS I t w n j).2 := by rw [hJ, m_up2_ne (by unfold scI dyI; omega)]; exact h3
            have hJ3 : J (rwI t) p = nI (w p) := (hJr p).trans hr
            have hto := k_takeOff (S := S) (lg := lg) (I := J) (d := d - 1) (s := w p) (t := t) (n := (edS I t w n j).2) (j := p) (by omega) hw2 (by omega) hJ1 hJ2 (by omega) (by omega) hJ3 (fun i hi1 hi2 hi3 => by
              rw [hJr] at hi3
              rcases Nat.lt_or_ge i (n - j) with z | z
              · rw [h4 i z] at hi3
                have := (hw i (by omega)).2
                have := hinj i p (by omega) (by omega) ((nI_eq (by omega) (by omega)).mp hi3)
                omega
              · obtain ⟨i', y1, y2, y3⟩ := h5 i z hi1
                rw [y3] at hi3
                have := (hw i' (by omega)).2
                have := hinj i' p (by omega) (by omega) ((nI_eq (by omega) (by omega)).mp hi3)
                omega)
            refine ms_aload_n dX0_endDay_43 rfl ?_
            refine ms_iconst (v := nI 1) dX0_endDay_44 (by decide) ?_
            refine q_putz dX0_endDay_45 fX0_86 pX0_8_13 kd_8_13 (by first | decide | exact lt_sc (by omega) | exact lt_dy (by omega) | exact lt_rw (by omega) | exact lt_wa (by omega) | exact lt_le (by omega)) (by first | rfl | rw [sh_sc (by omega)] | rw [sh_dy (by omega)]) (by first | exact Or.inl (by decide) | exact Or.inr (by decide) | assumption | exact bi_01 _) ?_
            rw [← hJ]
            refine ms_aload_n dX0_endDay_48 rfl ?_
            refine ms_aload_n dX0_endDay_49 rfl ?_
            refine q_getr dX0_endDay_50 fX0_78 kd_3_5 (by first | decide | exact lt_sc (by omega) | exact lt_dy (by omega) | exact lt_rw (by omega) | exact lt_wa (by omega) | exact lt_le (by omega)) (by first | rfl | rw [sh_sc (by omega)] | rw [sh_dy (by omega)]) (by first | rfl | exact rf_wa (by omega) | exact rf_le (by omega) | exact rf_rw (by omega)) ?_
            refine ms_iload_n dX0_endDay_53 rfl ?_
            refine q_iald dX0_endDay_54 (by first | decide | exact lt_sc (by omega) | exact lt_dy (by omega) | exact lt_rw (by omega) | exact lt_wa (by omega) | exact lt_le (by omega)) (by first | rfl | exact sh_rw (by omega) | exact sh_wa (by omega) | exact sh_le (by omega)) (by omega) (by decide) (by first | assumption | ((repeat ((with_reducible apply m_up2_tr); · first | omega | (intro z; (try unfold scI at z); (try unfold dyI at z); (try unfold rwI at z); (try unfold waI at z); (try unfold leI at z); omega))); first | assumption | exact m_up2_eq | rfl)) ?_
            refine qRV1 dX0_endDay_55 kX0_89 (by show _ < 178; first | decide | exact lt_sc (by omega) | exact lt_dy (by omega)) (by show (sh0 _).1 = _; first | rfl | rw [sh_sc (by omega)] | rw [sh_dy (by omega)]) (d := d - 1) (by show d - 1 + 1 ≤ d; omega) rfl (Nat.le_of_ble_eq_true rfl) (Nat.le_of_ble_eq_true rfl) (hto) rfl ?_
            refine back _ ?_ _
            rw [e, hJ]
  refine ms_aload_n dX0_endDay_0 rfl ?_
  refine q_getr dX0_endDay_1 fX0_20 kd_0_2 (by first | decide | exact lt_sc (by omega) | exact lt_dy (by omega) | exact lt_rw (by omega) | exact lt_wa (by omega) | exact lt_le (by omega)) (by first | rfl | rw [sh_sc (by omega)] | rw [sh_dy (by omega)]) (by first | rfl | exact rf_wa (by omega) | exact rf_le (by omega) | exact rf_rw (by omega)) ?_
  refine ms_aload_n dX0_endDay_4 rfl ?_
  refine q_geti dX0_endDay_5 fX0_72 (by rw [kd_0_4]; decide) (by first | decide | exact lt_sc (by omega) | exact lt_dy (by omega) | exact lt_rw (by omega) | exact lt_wa (by omega) | exact lt_le (by omega)) (by first | rfl | rw [sh_sc (by omega)] | rw [sh_dy (by omega)]) (by first | assumption | ((repeat ((with_reducible apply m_up2_tr); · first | omega | (intro z; (try unfold scI at z); (try unfold dyI at z); (try unfold rwI at z); (try unfold waI at z); (try unfold leI at z); omega))); first | assumption | exact m_up2_eq | rfl)) ?_
  refine q_aald dX0_endDay_8 (by first | exact Or.inl ⟨rfl, by omega, rfl⟩ | exact Or.inr ⟨rfl, by omega, rfl⟩) ?_
  refine ms_astore_n dX0_endDay_9 (Nat.le_of_ble_eq_true rfl) ?_
  refine ms_aload_n dX0_endDay_10 rfl ?_
  refine q_geti dX0_endDay_11 fX0_75 (by rw [kd_3_6]; decide) (by first | decide | exact lt_sc (by omega) | exact lt_dy (by omega) | exact lt_rw (by omega) | exact lt_wa (by omega) | exact lt_le (by omega)) (by first | rfl | rw [sh_sc (by omega)] | rw [sh_dy (by omega)]) (by first | assumption | ((repeat ((with_reducible apply m_up2_tr); · first | omega | (intro z; (try unfold scI at z); (try unfold dyI at z); (try unfold rwI at z); (try unfold waI at z); (try unfold leI at z); omega))); first | assumption | exact m_up2_eq | rfl)) ?_
  refine ms_iconst (v := nI 1) dX0_endDay_14 (by decide) ?_
  refine ms_isub dX0_endDay_15 ?_
  refine ms_istore_n dX0_endDay_16 (Nat.le_of_ble_eq_true rfl) ?_
  exact loop (n + 1) 0 none (by omega) (by omega)

