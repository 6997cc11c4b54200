/-! the board: faults -/
def b2n (c : Bool) (k : Nat) : Nat := if c then k else 0
def dkC (J : m_I) (t at' : Nat) : Bool := decide (J 76 at' < J (dyI t) 1 ∨ J (dyI t) 2 < J 77 at')
theorem k_isDark {S : m_S} {I : m_I} {lg : Int64} {d t at' : Nat} (ht : t < 30) (ha : at' < 8) : m_R S M_X0_isDark d [.ref 72, .ref (dyI t), .int (nI at')] (hh I lg) (some (.int (bi (dkC I t at')))) (hh I lg) := by
  refine ms_aload_n dX0_isDark_0 rfl ?_
  refine q_getr dX0_isDark_1 fX0_33 kd_0_3 (by first | decide | exact lt_sc (by omega) | exact lt_dy (by omega) | exact lt_rw (by omega) | exact lt_wa (by omega) | exact lt_le (by omega)) (by first | rfl | rw [sh_sc (by omega)] | rw [sh_dy (by omega)]) (by first | rfl | exact rf_wa (by omega) | exact rf_le (by omega) | exact rf_rw (by omega)) ?_
  refine q_getr dX0_isDark_4 fX0_103 kd_1_4 (by first | decide | exact lt_sc (by omega) | exact lt_dy (by omega) | exact lt_rw (by omega) | exact lt_wa (by omega) | exact lt_le (by omega)) (by first | rfl | rw [sh_sc (by omega)] | rw [sh_dy (by omega)]) (by first | rfl | exact rf_wa (by omega) | exact rf_le (by omega) | exact rf_rw (by omega)) ?_
  refine ms_iload_n dX0_isDark_7 rfl ?_
  refine q_iald dX0_isDark_8 (by first | decide | exact lt_sc (by omega) | exact lt_dy (by omega) | exact lt_rw (by omega) | exact lt_wa (by omega) | exact lt_le (by omega)) (by first | rfl | exact sh_rw (by omega) | exact sh_wa (by omega) | exact sh_le (by omega)) (by omega) (by decide) rfl ?_
  refine ms_aload_n dX0_isDark_9 rfl ?_
  refine q_geti dX0_isDark_10 fX0_134 (by rw [kd_3_1]; decide) (by first | decide | exact lt_sc (by omega) | exact lt_dy (by omega) | exact lt_rw (by omega) | exact lt_wa (by omega) | exact lt_le (by omega)) (by first | rfl | rw [sh_sc (by omega)] | rw [sh_dy (by omega)]) rfl ?_
  refine ms_icmp_lt (tgt := 32) dX0_isDark_13 (by decide) (fun c13 => ?_) (fun c13 => ?_)
  · refine ms_iconst (v := nI 1) dX0_isDark_32 (by decide) ?_
    refine ms_goto (tgt := 37) dX0_isDark_33 (by decide) ?_
    refine ms_zret dX0_isDark_37 rfl rfl (by first | exact Or.inl (by decide) | exact Or.inr (by decide) | assumption | exact bi_01 _) ⟨?_, ?_⟩
    · rw [show dkC I t at' = true from decide_eq_true (Or.inl c13)]; rfl
    · rfl
  · refine ms_aload_n dX0_isDark_16 rfl ?_
    refine q_getr dX0_isDark_17 fX0_33 kd_0_3 (by first | decide | exact lt_sc (by omega) | exact lt_dy (by omega) | exact lt_rw (by omega) | exact lt_wa (by omega) | exact lt_le (by omega)) (by first | rfl | rw [sh_sc (by omega)] | rw [sh_dy (by omega)]) (by first | rfl | exact rf_wa (by omega) | exact rf_le (by omega) | exact rf_rw (by omega)) ?_
    refine q_getr dX0_isDark_20 fX0_100 kd_1_5 (by first | decide | exact lt_sc (by omega) | exact lt_dy (by omega) | exact lt_rw (by omega) | exact lt_wa (by omega) | exact lt_le (by omega)) (by first | rfl | rw [sh_sc (by omega)] | rw [sh_dy (by omega)]) (by first | rfl | exact rf_wa (by omega) | exact rf_le (by omega) | exact rf_rw (by omega)) ?_
    refine ms_iload_n dX0_isDark_23 rfl ?_
    refine q_iald dX0_isDark_24 (by first | decide | exact lt_sc (by omega) | exact lt_dy (by omega) | exact lt_rw (by omega) | exact lt_wa (by omega) | exact lt_le (by omega)) (by first | rfl | exact sh_rw (by omega) | exact sh_wa (by omega) | exact sh_le (by omega)) (by omega) (by decide) rfl ?_
    refine ms_aload_n dX0_isDark_25 rfl ?_
    refine q_geti dX0_isDark_26 fX0_137 (by rw [kd_3_2]; decide) (by first | decide | exact lt_sc (by omega) | exact lt_dy (by omega) | exact lt_rw (by omega) | exact lt_wa (by omega) | exact lt_le (by omega)) (by first | rfl | rw [sh_sc (by omega)] | rw [sh_dy (by omega)]) rfl ?_
    refine ms_icmp_le (tgt := 36) dX0_isDark_29 (by decide) (fun c29 => ?_) (fun c29 => ?_)
    · refine ms_iconst (v := nI 0) dX0_isDark_36 (by decide) ?_
      refine ms_zret dX0_isDark_37 rfl rfl (by first | exact Or.inl (by decide) | exact Or.inr (by decide) | assumption | exact bi_01 _) ⟨?_, ?_⟩
      · rw [show dkC I t at' = false from decide_eq_false (fun z => z.elim (fun y => c13 y) (fun y => (Int32.not_lt.mpr c29) y))]; rfl
      · rfl
    · refine ms_iconst (v := nI 1) dX0_isDark_32 (by decide) ?_
      refine ms_goto (tgt := 37) dX0_isDark_33 (by decide) ?_
      refine ms_zret dX0_isDark_37 rfl rfl (by first | exact Or.inl (by decide) | exact Or.inr (by decide) | assumption | exact bi_01 _) ⟨?_, ?_⟩
      · rw [show dkC I t at' = true from decide_eq_true (Or.inr (Int32.not_le.mp c29))]; rfl
      · rfl
def fa1 (J : m_I) (t p : Nat) : Nat := b2n (bt (J (dyI t) 4) p) 1
def fa2 (J : m_I) (t s at' : Nat) : Nat := b2n (wlC J s && dkC J t at') 2
def fa3 (J : m_I) (t s : Nat) : Nat := b2n (!decide (J (scI s) 4 &&& J (dyI t) 3 = 0)) 4
def fa4 (J : m_I) (s : Nat) : Nat := b2n (!decide (J (scI s) 4 &&& J 75 9 = 0)) 8
def fa5 (J : m_I) (w : Nat → Nat) (s at' m : Nat) : Nat := b2n (eaC J w s at' m) 16
def fa6 (J : m_I) : Nat := b2n (!decide (J 75 10 = 0)) 32
def faN (J : m_I) (t : Nat) (w : Nat → Nat) (p at' m : Nat) : Nat := fa1 J t p + fa2 J t (w at') at' + fa3 J t (w at') + fa4 J (w at') + fa5 J w (w at') at' m + fa6 J
theorem k_faultsAt {S : m_S} {I : m_I} {lg : Int64} {d t p at' m : Nat} {w : Nat → Nat} (hd : 3 ≤ d) (ht : t < 30) (ha : at' < 8) (hm : I 1 3 = nI m) (hm2 : m ≤ 20) (hw : ∀ j, j ≤ at' → I (rwI t) j = nI (w j) ∧ w j < 20) (hp : I (scI (w at')) 0 = nI p) (hp2 : p < 6) : m_R S M_X0_faultsAt d [.ref 72, .ref (dyI t), .int (nI at')] (hh I lg) (some (.int (nI (faN I t w p at' m)))) (hh I lg) := by
  obtain ⟨hw1, hw2⟩ := hw at' (Nat.le_refl _)
  obtain ⟨s, hs⟩ : ∃ z, z = w at' := ⟨_, rfl⟩
  have hf : faN I t w p at' m = fa1 I t p + fa2 I t s at' + fa3 I t s + fa4 I s + fa5 I w s at' m + fa6 I := by rw [hs]; rfl
  obtain ⟨r, hr⟩ : ∃ z, z = faN I t w p at' m := ⟨_, rfl⟩
  rw [← hr] at hf ⊢
  rw [← hs] at hw1 hw2 hp
  have J6 : ∀ v, v = r → m_W S (M_X0_faultsAt, d, fun w9 g => w9 = some (.int (nI r)) ∧ g = hh I lg, fun _ _ => False) 116 [some (.ref 72), some (.ref (dyI t)), some (.int (nI at')), some (.ref (scI s)), some (.int (nI v))] [] (hh I lg) 0 0 := by
    intro v hv
    refine ms_iload dX0_faultsAt_116 rfl ?_
    refine ms_iret dX0_faultsAt_118 rfl rfl ⟨?_, ?_⟩
    · rw [hv]
    · rfl
  have J5 : ∀ v, v + fa6 I = r → m_W S (M_X0_faultsAt, d, fun w9 g => w9 = some (.int (nI r)) ∧ g = hh I lg, fun _ _ => False) 103 [some (.ref 72), some (.ref (dyI t)), some (.int (nI at')), some (.ref (scI s)), some (.int (nI v))] [] (hh I lg) 0 0 := by
    intro v hv
    refine ms_aload_n dX0_faultsAt_103 rfl ?_
    refine q_getr dX0_faultsAt_104 fX0_33 kd_0_3 (by first | decide | exact lt_sc (by omega) | exact lt_dy (by omega) | exact lt_rw (by omega) | exact lt_wa (by omega) | exact lt_le (by omega)) (by first | rfl | rw [sh_sc (by omega)] | rw [sh_dy (by omega)]) (by first | rfl | exact rf_wa (by omega) | exact rf_le (by omega) | exact rf_rw (by omega)) ?_
    refine q_geti dX0_faultsAt_107 fX0_131 (by rw [kd_1_10]; decide) (by first | decide | exact lt_sc (by omega) | exact lt_dy (by omega) | exact lt_rw (by omega) | exact lt_wa (by omega) | exact lt_le (by omega)) (by first | rfl | rw [sh_sc (by omega)] | rw [sh_dy (by omega)]) rfl ?_
    refine ms_if_eq (tgt := 116) dX0_faultsAt_110 (by decide) (fun c110 => ?_) (fun c110 => ?_)
    · have e : fa6 I = 0 := by unfold fa6; rw [decide_eq_true c110]; rfl
      exact J6 v (by omega)
    · have e : fa6 I = 32 := by unfold fa6; rw [decide_eq_false c110]; rfl
      refine ms_iinc dX0_faultsAt_113 rfl (show _ + Int32.ofInt 32 = nI (_ + 32) from nI_add _ 32) ?_
      exact J6 _ (by omega)
  have J4 : ∀ v, v + fa5 I w s at' m + fa6 I = r → m_W S (M_X0_faultsAt, d, fun w9 g => w9 = some (.int (nI r)) ∧ g = hh I lg, fun _ _ => False) 87 [some (.ref 72), some (.ref (dyI t)), some (.int (nI at')), some (.ref (scI s)), some (.int (nI v))] [] (hh I lg) 0 0 := by
    intro v hv
    refine ms_aload_n dX0_faultsAt_87 rfl ?_
    refine ms_aload_n dX0_faultsAt_88 rfl ?_
    refine ms_aload_n dX0_faultsAt_89 rfl ?_
    refine q_getr dX0_faultsAt_90 fX0_78 kd_3_5 (by first | decide | exact lt_sc (by omega) | exact lt_dy (by omega) | exact lt_rw (by omega) | exact lt_wa (by omega) | exact lt_le (by omega)) (by first | rfl | rw [sh_sc (by omega)] | rw [sh_dy (by omega)]) (by first | rfl | exact rf_wa (by omega) | exact rf_le (by omega) | exact rf_rw (by omega)) ?_
    refine ms_iload_n dX0_faultsAt_93 rfl ?_
    refine qRV3 dX0_faultsAt_94 kX0_127 (by show _ < 178; first | decide | exact lt_sc (by omega) | exact lt_dy (by omega)) (by show (sh0 _).1 = _; first | rfl | rw [sh_sc (by omega)] | rw [sh_dy (by omega)]) (d := d - 1) (by show d - 1 + 1 ≤ d; omega) rfl rfl rfl (Nat.le_of_ble_eq_true rfl) (Nat.le_of_ble_eq_true rfl) (k_isTooEarly (w := w) (by omega) ht (by omega) hw2 hm hm2 (fun j hj => hw j (by omega))) rfl ?_
    refine ms_if_eq (tgt := 103) dX0_faultsAt_97 (by decide) (fun c97 => ?_) (fun c97 => ?_)
    · have e : fa5 I w s at' m = 0 := by unfold fa5; rw [bi_0.mp c97]; rfl
      exact J5 v (by omega)
    · have e : fa5 I w s at' m = 16 := by unfold fa5; rw [bi_n0.mp c97]; rfl
      refine ms_iinc dX0_faultsAt_100 rfl (show _ + Int32.ofInt 16 = nI (_ + 16) from nI_add _ 16) ?_
      exact J5 _ (by omega)
  have J3 : ∀ v, v + fa4 I s + fa5 I w s at' m + fa6 I = r → m_W S (M_X0_faultsAt, d, fun w9 g => w9 = some (.int (nI r)) ∧ g = hh I lg, fun _ _ => False) 69 [some (.ref 72), some (.ref (dyI t)), some (.int (nI at')), some (.ref (scI s)), some (.int (nI v))] [] (hh I lg) 0 0 := by
    intro v hv
    refine ms_aload_n dX0_faultsAt_69 rfl ?_
    refine q_geti dX0_faultsAt_70 fX0_121 (by rw [kd_8_4]; decide) (by first | decide | exact lt_sc (by omega) | exact lt_dy (by omega) | exact lt_rw (by omega) | exact lt_wa (by omega) | exact lt_le (by omega)) (by first | rfl | rw [sh_sc (by omega)] | rw [sh_dy (by omega)]) rfl ?_
    refine ms_aload_n dX0_faultsAt_73 rfl ?_
    refine q_getr dX0_faultsAt_74 fX0_33 kd_0_3 (by first | decide | exact lt_sc (by omega) | exact lt_dy (by omega) | exact lt_rw (by omega) | exact lt_wa (by omega) | exact lt_le (by omega)) (by first | rfl | rw [sh_sc (by omega)] | rw [sh_dy (by omega)]) (by first | rfl | exact rf_wa (by omega) | exact rf_le (by omega) | exact rf_rw (by omega)) ?_
    refine q_geti dX0_faultsAt_77 fX0_124 (by rw [kd_1_9]; decide) (by first | decide | exact lt_sc (by omega) | exact lt_dy (by omega) | exact lt_rw (by omega) | exact lt_wa (by omega) | exact lt_le (by omega)) (by first | rfl | rw [sh_sc (by omega)] | rw [sh_dy (by omega)]) rfl ?_
    refine ms_iand dX0_faultsAt_80 ?_
    refine ms_if_eq (tgt := 87) dX0_faultsAt_81 (by decide) (fun c81 => ?_) (fun c81 => ?_)
    · have e : fa4 I s = 0 := by unfold fa4; rw [decide_eq_true c81]; rfl
      exact J4 v (by omega)
    · have e : fa4 I s = 8 := by unfold fa4; rw [decide_eq_false c81]; rfl
      refine ms_iinc dX0_faultsAt_84 rfl (show _ + Int32.ofInt 8 = nI (_ + 8) from nI_add _ 8) ?_
      exact J4 _ (by omega)
  have J2 : ∀ v, v + fa3 I t s + fa4 I s + fa5 I w s at' m + fa6 I = r → m_W S (M_X0_faultsAt, d, fun w9 g => w9 = some (.int (nI r)) ∧ g = hh I lg, fun _ _ => False) 54 [some (.ref 72), some (.ref (dyI t)), some (.int (nI at')), some (.ref (scI s)), some (.int (nI v))] [] (hh I lg) 0 0 := by
    intro v hv
    refine ms_aload_n dX0_faultsAt_54 rfl ?_
    refine q_geti dX0_faultsAt_55 fX0_121 (by rw [kd_8_4]; decide) (by first | decide | exact lt_sc (by omega) | exact lt_dy (by omega) | exact lt_rw (by omega) | exact lt_wa (by omega) | exact lt_le (by omega)) (by first | rfl | rw [sh_sc (by omega)] | rw [sh_dy (by omega)]) rfl ?_
    refine ms_aload_n dX0_faultsAt_58 rfl ?_
    refine q_geti dX0_faultsAt_59 fX0_38 (by rw [kd_3_3]; decide) (by first | decide | exact lt_sc (by omega) | exact lt_dy (by omega) | exact lt_rw (by omega) | exact lt_wa (by omega) | exact lt_le (by omega)) (by first | rfl | rw [sh_sc (by omega)] | rw [sh_dy (by omega)]) rfl ?_
    refine ms_iand dX0_faultsAt_62 ?_
    refine ms_if_eq (tgt := 69) dX0_faultsAt_63 (by decide) (fun c63 => ?_) (fun c63 => ?_)
    · have e : fa3 I t s = 0 := by unfold fa3; rw [decide_eq_true c63]; rfl
      exact J3 v (by omega)
    · have e : fa3 I t s = 4 := by unfold fa3; rw [decide_eq_false c63]; rfl
      refine ms_iinc dX0_faultsAt_66 rfl (show _ + Int32.ofInt 4 = nI (_ + 4) from nI_add _ 4) ?_
      exact J3 _ (by omega)
  have J1 : ∀ v, v + fa2 I t s at' + fa3 I t s + fa4 I s + fa5 I w s at' m + fa6 I = r → m_W S (M_X0_faultsAt, d, fun w9 g => w9 = some (.int (nI r)) ∧ g = hh I lg, fun _ _ => False) 35 [some (.ref 72), some (.ref (dyI t)), some (.int (nI at')), some (.ref (scI s)), some (.int (nI v))] [] (hh I lg) 0 0 := by
    intro v hv
    refine ms_aload_n dX0_faultsAt_35 rfl ?_
    refine qRV0 dX0_faultsAt_36 kX0_113 (by show _ < 178; first | decide | exact lt_sc (by omega) | exact lt_dy (by omega)) (by show (sh0 _).1 = _; first | rfl | rw [sh_sc (by omega)] | rw [sh_dy (by omega)]) (d := d - 1) (by show d - 1 + 1 ≤ d; omega)  (Nat.le_of_ble_eq_true rfl) (Nat.le_of_ble_eq_true rfl) (k_wantsLight hw2) rfl ?_
    refine ms_if_eq (tgt := 54) dX0_faultsAt_39 (by decide) (fun c39 => ?_) (fun c39 => ?_)
    · have e : fa2 I t s at' = 0 := by unfold fa2; rw [bi_0.mp c39]; rfl
      exact J2 v (by omega)
    · refine ms_aload_n dX0_faultsAt_42 rfl ?_
      refine ms_aload_n dX0_faultsAt_43 rfl ?_
      refine ms_iload_n dX0_faultsAt_44 rfl ?_
      refine qRV2 dX0_faultsAt_45 kX0_117 (by show _ < 178; first | decide | exact lt_sc (by omega) | exact lt_dy (by omega)) (by show (sh0 _).1 = _; first | rfl | rw [sh_sc (by omega)] | rw [sh_dy (by omega)]) (d := d - 1) (by show d - 1 + 1 ≤ d; omega) rfl rfl (Nat.le_of_ble_eq_true rfl) (Nat.le_of_ble_eq_true rfl) (k_isDark ht ha) rfl ?_
      refine ms_if_eq (tgt := 54) dX0_faultsAt_48 (by decide) (fun c48 => ?_) (fun c48 => ?_)
      · have e : fa2 I t s at' = 0 := by unfold fa2; rw [bi_0.mp c48, Bool.and_false]; rfl
        exact J2 v (by omega)
      · have e : fa2 I t s at' = 2 := by unfold fa2; rw [bi_n0.mp c39, bi_n0.mp c48]; rfl
        refine ms_iinc dX0_faultsAt_51 rfl (show _ + Int32.ofInt 2 = nI (_ + 2) from nI_add _ 2) ?_
        exact J2 _ (by omega)
  refine ms_aload_n dX0_faultsAt_0 rfl ?_
  refine q_getr dX0_faultsAt_1 fX0_24 kd_0_0 (by first | decide | exact lt_sc (by omega) | exact lt_dy (by omega) | exact lt_rw (by omega) | exact lt_wa (by omega) | exact lt_le (by omega)) (by first | rfl | rw [sh_sc (by omega)] | rw [sh_dy (by omega)]) (by first | rfl | exact rf_wa (by omega) | exact rf_le (by omega) | exact rf_rw (by omega)) ?_
  refine q_getr dX0_faultsAt_4 fX0_57 kd_9_0 (by first | decide | exact lt_sc (by omega) | exact lt_dy (by omega) | exact lt_rw (by omega) | exact lt_wa (by omega) | exact lt_le (by omega)) (by first | rfl | rw [sh_sc (by omega)] | rw [sh_dy (by omega)]) (by first | rfl | exact rf_wa (by omega) | exact rf_le (by omega) | exact rf_rw (by omega)) ?_
  refine ms_aload_n dX0_faultsAt_7 rfl ?_
  refine q_getr dX0_faultsAt_8 fX0_78 kd_3_5 (by first | decide | exact lt_sc (by omega) | exact lt_dy (by omega) | exact lt_rw (by omega) | exact lt_wa (by omega) | exact lt_le (by omega)) (by first | rfl | rw [sh_sc (by omega)] | rw [sh_dy (by omega)]) (by first | rfl | exact rf_wa (by omega) | exact rf_le (by omega) | exact rf_rw (by omega)) ?_
  refine ms_iload_n dX0_faultsAt_11 rfl ?_
  refine q_iald dX0_faultsAt_12 (by first | decide | exact lt_sc (by omega) | exact lt_dy (by omega) | exact lt_rw (by omega) | exact lt_wa (by omega) | exact lt_le (by omega)) (by first | rfl | exact sh_rw (by omega) | exact sh_wa (by omega) | exact sh_le (by omega)) (by omega) (by decide) (by first | assumption | ((repeat ((with_reducible apply m_up2_tr); · first | omega | (intro z; (try unfold scI at z); (try unfold dyI at z); (try unfold rwI at z); (try unfold waI at z); (try unfold leI at z); omega))); first | assumption | exact m_up2_eq | rfl)) ?_
  refine q_aald dX0_faultsAt_13 (by first | exact Or.inl ⟨rfl, by omega, rfl⟩ | exact Or.inr ⟨rfl, by omega, rfl⟩) ?_
  refine ms_astore_n dX0_faultsAt_14 (Nat.le_of_ble_eq_true rfl) ?_
  refine ms_iconst (v := nI 0) dX0_faultsAt_15 (by decide) ?_
  refine ms_istore dX0_faultsAt_16 (Nat.le_of_ble_eq_true rfl) ?_
  refine ms_aload_n dX0_faultsAt_18 rfl ?_
  refine q_geti dX0_faultsAt_19 fX0_50 (by rw [kd_3_4]; decide) (by first | decide | exact lt_sc (by omega) | exact lt_dy (by omega) | exact lt_rw (by omega) | exact lt_wa (by omega) | exact lt_le (by omega)) (by first | rfl | rw [sh_sc (by omega)] | rw [sh_dy (by omega)]) rfl ?_
  refine ms_aload_n dX0_faultsAt_22 rfl ?_
  refine q_geti dX0_faultsAt_23 fX0_110 (by rw [kd_8_0]; decide) (by first | decide | exact lt_sc (by omega) | exact lt_dy (by omega) | exact lt_rw (by omega) | exact lt_wa (by omega) | exact lt_le (by omega)) (by first | rfl | rw [sh_sc (by omega)] | rw [sh_dy (by omega)]) (by first | assumption | ((repeat ((with_reducible apply m_up2_tr); · first | omega | (intro z; (try unfold scI at z); (try unfold dyI at z); (try unfold rwI at z); (try unfold waI at z); (try unfold leI at z); omega))); first | assumption | exact m_up2_eq | rfl)) ?_
  refine qRN2 dX0_faultsAt_26 kX0_46 (d := d - 1) (by show d - 1 + 1 ≤ d; omega) rfl rfl (Nat.le_of_ble_eq_true rfl) (Nat.le_of_ble_eq_true rfl) (k_hasBit (b := p) _ (by omega)) rfl ?_
  refine ms_if_eq (tgt := 35) dX0_faultsAt_29 (by decide) (fun c29 => ?_) (fun c29 => ?_)
  · have e : fa1 I t p = 0 := by unfold fa1; rw [bi_0.mp c29]; rfl
    exact J1 0 (by omega)
  · have e : fa1 I t p = 1 := by unfold fa1; rw [bi_n0.mp c29]; rfl
    refine n_iinc dX0_faultsAt_32 rfl ?_
    exact J1 1 (by omega)
/-- the same m scenes, the day t with its row, its places -/
def Md (I : m_I) (m : Nat) : Prop := I 1 3 = nI m ∧ m ≤ 20
theorem rdI_row {I : m_I} {t n pn : Nat} {w pl : Nat → Nat} {s b : Nat} (hs : s < 30) : rdI I t n w pl pn (rwI s) b = I (rwI s) b := rdI_ne (by unfold rwI; omega) (Or.inl (by unfold rwI; omega))
theorem rdI_day {I : m_I} {t n pn : Nat} {w pl : Nat → Nat} {s b : Nat} (hs : s < 30) : rdI I t n w pl pn (dyI s) b = I (dyI s) b := rdI_ne (by unfold dyI; omega) (Or.inl (by unfold dyI; omega))
theorem rdI_sc {I : m_I} {t n pn : Nat} {w pl : Nat → Nat} {s b : Nat} (hs : s < 20) : rdI I t n w pl pn (scI s) b = I (scI s) b := rdI_ne (by unfold scI; omega) (Or.inl (by unfold scI; omega))
/-- the faults at a place of the day's row -/
def faC (I : m_I) (t n : Nat) (w pl : Nat → Nat) (pn m at' : Nat) : Nat := faN (rdI I t n w pl pn) t w (pl at') at' m
theorem k_faultsOf {S : m_S} {I : m_I} {lg : Int64} {d t n pn m at' : Nat} {w pl : Nat → Nat} (hd : 4 ≤ d) (hD : DyC I t n w pl) (hP : Pn I pn) (hM : Md I m) (ha : at' < n) (hdy : I (scI (w at')) 15 = nI t) (hne : ∀ j, j < n → w j = w at' → j = at') : m_R S M_X0_faultsOf d [.ref 72, .int (nI (w at'))] (hh I lg) (some (.int (nI (faC I t n w pl pn m at')))) (hh (rdI I t n w pl pn) lg) := by
  obtain ⟨ht, hn, hn2, hw, hp⟩ := id hD
  obtain ⟨hw1, hw2⟩ := hw at' ha
  have hsp := k_daySpot (S := S) (lg := lg) (d := d - 1) (I := rdI I t n w pl pn) (i := at') (s := w at') ht ((rdI_day ht).trans hn) hn2 ha hw2 ((rdI_row ht).trans hw1) (fun j hj e => by
    rw [rdI_row ht, (hw j (by omega)).1] at e
    have h1 := (hw j (by omega)).2
    have := hne j (by omega) ((nI_eq (by omega) (by omega)).mp e)
    omega)
  have hfa := k_faultsAt (S := S) (lg := lg) (d := d - 1) (I := rdI I t n w pl pn) (t := t) (p := pl at') (at' := at') (m := m) (w := w) (by omega) ht (by omega) ((rdI_ne (by decide) (Or.inl (by decide))).trans hM.1) hM.2 (fun j hj => ⟨(rdI_row ht).trans (hw j (by omega)).1, (hw j (by omega)).2⟩) ((rdI_sc hw2).trans (hp at' ha).1) (hp at' ha).2
  refine ms_aload_n dX0_faultsOf_0 rfl ?_
  refine q_getr dX0_faultsOf_1 fX0_20 kd_0_2 (by first | decide | exact lt_sc (by omega) | exact lt_dy (by omega) | exact lt_rw (by omega) | exact lt_wa (by omega) | exact lt_le (by omega)) (by first | rfl | rw [sh_sc (by omega)] | rw [sh_dy (by omega)]) (by first | rfl | exact rf_wa (by omega) | exact rf_le (by omega) | exact rf_rw (by omega)) ?_
  refine ms_aload_n dX0_faultsOf_4 rfl ?_
  refine q_getr dX0_faultsOf_5 fX0_24 kd_0_0 (by first | decide | exact lt_sc (by omega) | exact lt_dy (by omega) | exact lt_rw (by omega) | exact lt_wa (by omega) | exact lt_le (by omega)) (by first | rfl | rw [sh_sc (by omega)] | rw [sh_dy (by omega)]) (by first | rfl | exact rf_wa (by omega) | exact rf_le (by omega) | exact rf_rw (by omega)) ?_
  refine q_getr dX0_faultsOf_8 fX0_57 kd_9_0 (by first | decide | exact lt_sc (by omega) | exact lt_dy (by omega) | exact lt_rw (by omega) | exact lt_wa (by omega) | exact lt_le (by omega)) (by first | rfl | rw [sh_sc (by omega)] | rw [sh_dy (by omega)]) (by first | rfl | exact rf_wa (by omega) | exact rf_le (by omega) | exact rf_rw (by omega)) ?_
  refine ms_iload_n dX0_faultsOf_11 rfl ?_
  refine q_aald dX0_faultsOf_12 (by first | exact Or.inl ⟨rfl, by omega, rfl⟩ | exact Or.inr ⟨rfl, by omega, rfl⟩) ?_
  refine q_geti dX0_faultsOf_13 fX0_63 (by rw [kd_8_15]; decide) (by first | decide | exact lt_sc (by omega) | exact lt_dy (by omega) | exact lt_rw (by omega) | exact lt_wa (by omega) | exact lt_le (by omega)) (by first | rfl | rw [sh_sc (by omega)] | rw [sh_dy (by omega)]) (by first | assumption | ((repeat ((with_reducible apply m_up2_tr); · first | omega | (intro z; (try unfold scI at z); (try unfold dyI at z); (try unfold rwI at z); (try unfold waI at z); (try unfold leI at z); omega))); first | assumption | exact m_up2_eq | rfl)) ?_
  refine q_aald dX0_faultsOf_16 (by first | exact Or.inl ⟨rfl, by omega, rfl⟩ | exact Or.inr ⟨rfl, by omega, rfl⟩) ?_
  refine ms_astore_n dX0_faultsOf_17 (Nat.le_of_ble_eq_true rfl) ?_
  refine ms_aload_n dX0_faultsOf_18 rfl ?_
  refine q_getr dX0_faultsOf_19 fX0_33 kd_0_3 (by first | decide | exact lt_sc (by omega) | exact lt_dy (by omega) | exact lt_rw (by omega) | exact lt_wa (by omega) | exact lt_le (by omega)) (by first | rfl | rw [sh_sc (by omega)] | rw [sh_dy (by omega)]) (by first | rfl | exact rf_wa (by omega) | exact rf_le (by omega) | exact rf_rw (by omega)) ?_
  refine ms_aload_n dX0_faultsOf_22 rfl ?_
  refine qRV1 dX0_faultsOf_23 kX0_92 (by show _ < 178; first | decide | exact lt_sc (by omega) | exact lt_dy (by omega)) (by show (sh0 _).1 = _; first | rfl | rw [sh_sc (by omega)] | rw [sh_dy (by omega)]) (d := d - 1) (by show d - 1 + 1 ≤ d; omega) rfl (Nat.le_of_ble_eq_true rfl) (Nat.le_of_ble_eq_true rfl) (k_read (by omega) hD hP) rfl ?_
  refine ms_aload_n dX0_faultsOf_26 rfl ?_
  refine ms_aload_n dX0_faultsOf_27 rfl ?_
  refine ms_aload_n dX0_faultsOf_28 rfl ?_
  refine ms_iload_n dX0_faultsOf_29 rfl ?_
  refine qRV1 dX0_faultsOf_30 kX0_96 (by show _ < 178; first | decide | exact lt_sc (by omega) | exact lt_dy (by omega)) (by show (sh0 _).1 = _; first | rfl | rw [sh_sc (by omega)] | rw [sh_dy (by omega)]) (d := d - 1) (by show d - 1 + 1 ≤ d; omega) rfl (Nat.le_of_ble_eq_true rfl) (Nat.le_of_ble_eq_true rfl) (hsp) rfl ?_
  refine qRV2 dX0_faultsOf_33 kX0_106 (by show _ < 178; first | decide | exact lt_sc (by omega) | exact lt_dy (by omega)) (by show (sh0 _).1 = _; first | rfl | rw [sh_sc (by omega)] | rw [sh_dy (by omega)]) (d := d - 1) (by show d - 1 + 1 ≤ d; omega) rfl rfl (Nat.le_of_ble_eq_true rfl) (Nat.le_of_ble_eq_true rfl) (hfa) rfl ?_
  refine ms_iret dX0_faultsOf_36 rfl rfl ⟨?_, ?_⟩
  · rfl
  · rfl
theorem k_timeOf {S : m_S} {I : m_I} {lg : Int64} {d t n pn at' : Nat} {w pl : Nat → Nat} (hd : 4 ≤ d) (hD : DyC I t n w pl) (hP : Pn I pn) (ha : at' < n) (hdy : I (scI (w at')) 15 = nI t) (hne : ∀ j, j < n → w j = w at' → j = at') (e : Bool) : m_R S M_X0_timeOf d [.ref 72, .int (nI (w at')), .int (bi e)] (hh I lg) (some (.int (if e then enC I t w pl at' else bgC I t w pl at'))) (hh (rdI I t n w pl pn) lg) := by
  obtain ⟨ht, hn, hn2, hw, hp⟩ := id hD
  obtain ⟨hw1, hw2⟩ := hw at' ha
  have hsp := k_daySpot (S := S) (lg := lg) (d := d - 1) (I := I) (i := at') (s := w at') ht hn hn2 ha hw2 hw1 (fun j hj e => by
    rw [(hw j (by omega)).1] at e
    have h1 := (hw j (by omega)).2
    have := hne j (by omega) ((nI_eq (by omega) (by omega)).mp e)
    omega)
  have hb := rdI_bg (I := I) (t := t) (pn := pn) (w := w) (pl := pl) ha
  have hee := rdI_en (I := I) (t := t) (pn := pn) (w := w) (pl := pl) ha
  refine ms_aload_n dX0_timeOf_0 rfl ?_
  refine q_getr dX0_timeOf_1 fX0_20 kd_0_2 (by first | decide | exact lt_sc (by omega) | exact lt_dy (by omega) | exact lt_rw (by omega) | exact lt_wa (by omega) | exact lt_le (by omega)) (by first | rfl | rw [sh_sc (by omega)] | rw [sh_dy (by omega)]) (by first | rfl | exact rf_wa (by omega) | exact rf_le (by omega) | exact rf_rw (by omega)) ?_
  refine ms_aload_n dX0_timeOf_4 rfl ?_
  refine q_getr dX0_timeOf_5 fX0_24 kd_0_0 (by first | decide | exact lt_sc (by omega) | exact lt_dy (by omega) | exact lt_rw (by omega) | exact lt_wa (by omega) | exact lt_le (by omega)) (by first | rfl | rw [sh_sc (by omega)] | rw [sh_dy (by omega)]) (by first | rfl | exact rf_wa (by omega) | exact rf_le (by omega) | exact rf_rw (by omega)) ?_
  refine q_getr dX0_timeOf_8 fX0_57 kd_9_0 (by first | decide | exact lt_sc (by omega) | exact lt_dy (by omega) | exact lt_rw (by omega) | exact lt_wa (by omega) | exact lt_le (by omega)) (by first | rfl | rw [sh_sc (by omega)] | rw [sh_dy (by omega)]) (by first | rfl | exact rf_wa (by omega) | exact rf_le (by omega) | exact rf_rw (by omega)) ?_
  refine ms_iload_n dX0_timeOf_11 rfl ?_
  refine q_aald dX0_timeOf_12 (by first | exact Or.inl ⟨rfl, by omega, rfl⟩ | exact Or.inr ⟨rfl, by omega, rfl⟩) ?_
  refine q_geti dX0_timeOf_13 fX0_63 (by rw [kd_8_15]; decide) (by first | decide | exact lt_sc (by omega) | exact lt_dy (by omega) | exact lt_rw (by omega) | exact lt_wa (by omega) | exact lt_le (by omega)) (by first | rfl | rw [sh_sc (by omega)] | rw [sh_dy (by omega)]) (by first | assumption | ((repeat ((with_reducible apply m_up2_tr); · first | omega | (intro z; (try unfold scI at z); (try unfold dyI at z); (try unfold rwI at z); (try unfold waI at z); (try unfold leI at z); omega))); first | assumption | exact m_up2_eq | rfl)) ?_
  refine q_aald dX0_timeOf_16 (by first | exact Or.inl ⟨rfl, by omega, rfl⟩ | exact Or.inr ⟨rfl, by omega, rfl⟩) ?_
  refine ms_astore_n dX0_timeOf_17 (Nat.le_of_ble_eq_true rfl) ?_
  refine ms_aload_n dX0_timeOf_18 rfl ?_
  refine ms_iload_n dX0_timeOf_19 rfl ?_
  refine qRV1 dX0_timeOf_20 kX0_96 (by show _ < 178; first | decide | exact lt_sc (by omega) | exact lt_dy (by omega)) (by show (sh0 _).1 = _; first | rfl | rw [sh_sc (by omega)] | rw [sh_dy (by omega)]) (d := d - 1) (by show d - 1 + 1 ≤ d; omega) rfl (Nat.le_of_ble_eq_true rfl) (Nat.le_of_ble_eq_true rfl) (hsp) rfl ?_
  refine ms_istore dX0_timeOf_23 (Nat.le_of_ble_eq_true rfl) ?_
  refine ms_aload_n dX0_timeOf_25 rfl ?_
  refine q_getr dX0_timeOf_26 fX0_33 kd_0_3 (by first | decide | exact lt_sc (by omega) | exact lt_dy (by omega) | exact lt_rw (by omega) | exact lt_wa (by omega) | exact lt_le (by omega)) (by first | rfl | rw [sh_sc (by omega)] | rw [sh_dy (by omega)]) (by first | rfl | exact rf_wa (by omega) | exact rf_le (by omega) | exact rf_rw (by omega)) ?_
  refine ms_aload_n dX0_timeOf_29 rfl ?_
  refine qRV1 dX0_timeOf_30 kX0_92 (by show _ < 178; first | decide | exact lt_sc (by omega) | exact lt_dy (by omega)) (by show (sh0 _).1 = _; first | rfl | rw [sh_sc (by omega)] | rw [sh_dy (by omega)]) (d := d - 1) (by show d - 1 + 1 ≤ d; omega) rfl (Nat.le_of_ble_eq_true rfl) (Nat.le_of_ble_eq_true rfl) (k_read (by omega) hD hP) rfl ?_
  refine ms_iload_n dX0_timeOf_33 rfl ?_
  refine ms_if_eq (tgt := 50) dX0_timeOf_34 (by decide) (fun c34 => ?_) (fun c34 => ?_)
  · refine ms_aload_n dX0_timeOf_50 rfl ?_
    refine q_getr dX0_timeOf_51 fX0_33 kd_0_3 (by first | decide | exact lt_sc (by omega) | exact lt_dy (by omega) | exact lt_rw (by omega) | exact lt_wa (by omega) | exact lt_le (by omega)) (by first | rfl | rw [sh_sc (by omega)] | rw [sh_dy (by omega)]) (by first | rfl | exact rf_wa (by omega) | exact rf_le (by omega) | exact rf_rw (by omega)) ?_
    refine q_getr dX0_timeOf_54 fX0_103 kd_1_4 (by first | decide | exact lt_sc (by omega) | exact lt_dy (by omega) | exact lt_rw (by omega) | exact lt_wa (by omega) | exact lt_le (by omega)) (by first | rfl | rw [sh_sc (by omega)] | rw [sh_dy (by omega)]) (by first | rfl | exact rf_wa (by omega) | exact rf_le (by omega) | exact rf_rw (by omega)) ?_
    refine ms_iload dX0_timeOf_57 rfl ?_
    refine q_iald dX0_timeOf_59 (by first | decide | exact lt_sc (by omega) | exact lt_dy (by omega) | exact lt_rw (by omega) | exact lt_wa (by omega) | exact lt_le (by omega)) (by first | rfl | exact sh_rw (by omega) | exact sh_wa (by omega) | exact sh_le (by omega)) (by omega) (by decide) (by first | assumption | ((repeat ((with_reducible apply m_up2_tr); · first | omega | (intro z; (try unfold scI at z); (try unfold dyI at z); (try unfold rwI at z); (try unfold waI at z); (try unfold leI at z); omega))); first | assumption | exact m_up2_eq | rfl)) ?_
    refine ms_iret dX0_timeOf_60 rfl rfl ⟨?_, ?_⟩
    · rw [bi_0.mp c34]; rfl
    · rfl
  · refine ms_aload_n dX0_timeOf_37 rfl ?_
    refine q_getr dX0_timeOf_38 fX0_33 kd_0_3 (by first | decide | exact lt_sc (by omega) | exact lt_dy (by omega) | exact lt_rw (by omega) | exact lt_wa (by omega) | exact lt_le (by omega)) (by first | rfl | rw [sh_sc (by omega)] | rw [sh_dy (by omega)]) (by first | rfl | exact rf_wa (by omega) | exact rf_le (by omega) | exact rf_rw (by omega)) ?_
    refine q_getr dX0_timeOf_41 fX0_100 kd_1_5 (by first | decide | exact lt_sc (by omega) | exact lt_dy (by omega) | exact lt_rw (by omega) | exact lt_wa (by omega) | exact lt_le (by omega)) (by first | rfl | rw [sh_sc (by omega)] | rw [sh_dy (by omega)]) (by first | rfl | exact rf_wa (by omega) | exact rf_le (by omega) | exact rf_rw (by omega)) ?_
    refine ms_iload dX0_timeOf_44 rfl ?_
    refine q_iald dX0_timeOf_46 (by first | decide | exact lt_sc (by omega) | exact lt_dy (by omega) | exact lt_rw (by omega) | exact lt_wa (by omega) | exact lt_le (by omega)) (by first | rfl | exact sh_rw (by omega) | exact sh_wa (by omega) | exact sh_le (by omega)) (by omega) (by decide) (by first | assumption | ((repeat ((with_reducible apply m_up2_tr); · first | omega | (intro z; (try unfold scI at z); (try unfold dyI at z); (try unfold rwI at z); (try unfold waI at z); (try unfold leI at z); omega))); first | assumption | exact m_up2_eq | rfl)) ?_
    refine ms_goto (tgt := 60) dX0_timeOf_47 (by decide) ?_
    refine ms_iret dX0_timeOf_60 rfl rfl ⟨?_, ?_⟩
    · rw [bi_n0.mp c34]; rfl
    · rfl
theorem k_clockOf {S : m_S} {I : m_I} {lg : Int64} {d t n pn : Nat} {w pl : Nat → Nat} (hd : 4 ≤ d) (hD : DyC I t n w pl) (hP : Pn I pn) : m_R S M_X0_clockOf d [.ref 72, .int (nI t)] (hh I lg) (some (.ref 75)) (hh (rdI I t n w pl pn) lg) := by
  obtain ⟨ht, hn, hn2, hw, hp⟩ := id hD
  refine ms_aload_n dX0_clockOf_0 rfl ?_
  refine q_getr dX0_clockOf_1 fX0_33 kd_0_3 (by first | decide | exact lt_sc (by omega) | exact lt_dy (by omega) | exact lt_rw (by omega) | exact lt_wa (by omega) | exact lt_le (by omega)) (by first | rfl | rw [sh_sc (by omega)] | rw [sh_dy (by omega)]) (by first | rfl | exact rf_wa (by omega) | exact rf_le (by omega) | exact rf_rw (by omega)) ?_
  refine ms_aload_n dX0_clockOf_4 rfl ?_
  refine q_getr dX0_clockOf_5 fX0_20 kd_0_2 (by first | decide | exact lt_sc (by omega) | exact lt_dy (by omega) | exact lt_rw (by omega) | exact lt_wa (by omega) | exact lt_le (by omega)) (by first | rfl | rw [sh_sc (by omega)] | rw [sh_dy (by omega)]) (by first | rfl | exact rf_wa (by omega) | exact rf_le (by omega) | exact rf_rw (by omega)) ?_
  refine ms_iload_n dX0_clockOf_8 rfl ?_
  refine q_aald dX0_clockOf_9 (by first | exact Or.inl ⟨rfl, by omega, rfl⟩ | exact Or.inr ⟨rfl, by omega, rfl⟩) ?_
  refine qRV1 dX0_clockOf_10 kX0_92 (by show _ < 178; first | decide | exact lt_sc (by omega) | exact lt_dy (by omega)) (by show (sh0 _).1 = _; first | rfl | rw [sh_sc (by omega)] | rw [sh_dy (by omega)]) (d := d - 1) (by show d - 1 + 1 ≤ d; omega) rfl (Nat.le_of_ble_eq_true rfl) (Nat.le_of_ble_eq_true rfl) (k_read (by omega) hD hP) rfl ?_
  refine ms_aload_n dX0_clockOf_13 rfl ?_
  refine q_getr dX0_clockOf_14 fX0_33 kd_0_3 (by first | decide | exact lt_sc (by omega) | exact lt_dy (by omega) | exact lt_rw (by omega) | exact lt_wa (by omega) | exact lt_le (by omega)) (by first | rfl | rw [sh_sc (by omega)] | rw [sh_dy (by omega)]) (by first | rfl | exact rf_wa (by omega) | exact rf_le (by omega) | exact rf_rw (by omega)) ?_
  refine ms_aret dX0_clockOf_17 rfl rfl ⟨rfl, ?_⟩
  · rfl
/-- the places without faults among the first k, as bits -/
def fsG (fa : Nat → Nat) : Nat → Int32
  | 0 => nI 0
  | k + 1 => if fa k = 0 then fsG fa k ||| (nI 1 <<< (nI k &&& 31)) else fsG fa k
theorem k_faultless {S : m_S} {I : m_I} {lg : Int64} {d t n pn m : Nat} {w pl : Nat → Nat} (hd : 4 ≤ d) (hD : DyC I t n w pl) (hP : Pn I pn) (hM : Md I m) : m_R S M_X0_faultless d [.ref 72, .int (nI t)] (hh I lg) (some (.int (fsG (faC I t n w pl pn m) n))) (hh (rdI I t n w pl pn) lg) := by
  obtain ⟨ht, hn, hn2, hw, hp⟩ := id hD
  have hn' := (rdI_day (I := I) (t := t) (n := n) (pn := pn) (w := w) (pl := pl) (s := t) (b := 6) ht).trans hn
  have loop : ∀ (q k : Nat), k ≤ n → n - k < q → m_W S (M_X0_faultless, d, fun w9 g9 => w9 = some (.int (fsG (faC I t n w pl pn m) n)) ∧ g9 = hh (rdI I t n w pl pn) lg, fun _ _ => False) 20 [some (.ref 72), some (.int (nI t)), some (.ref (dyI t)), some (.int (fsG (faC I t n w pl pn m) k)), some (.int (nI k))] [] (hh (rdI I t n w pl pn) lg) 0 0 := by
    intro q
    induction q with
    | zero => intro k  _ h; omega
    | succ q ih =>
      intro k  hk hq
      refine ms_iload dX0_faultless_20 rfl ?_
      refine ms_aload_n dX0_faultless_22 rfl ?_
      refine q_geti dX0_faultless_23 fX0_75 (by rw [kd_3_6]; decide) (by first | decide | exact lt_sc (by omega) | exact lt_dy (by omega) | exact lt_rw (by omega) | exact lt_wa (by omega) | exact lt_le (by omega)) (by first | rfl | rw [sh_sc (by omega)] | rw [sh_dy (by omega)]) (by first | assumption | ((repeat ((with_reducible apply m_up2_tr); · first | omega | (intro z; (try unfold scI at z); (try unfold dyI at z); (try unfold rwI at z); (try unfold waI at z); (try unfold leI at z); omega))); first | assumption | exact m_up2_eq | rfl)) ?_
      refine n_icmp_ge (tgt := 52) dX0_faultless_26 (by decide) (by omega) (by omega) (fun c26 => ?_) (fun c26 => ?_)
      · obtain rfl : k = n := by omega
        refine ms_iload_n dX0_faultless_52 rfl ?_
        refine ms_iret dX0_faultless_53 rfl rfl ⟨?_, ?_⟩
        · rfl
        · rfl
      · obtain ⟨hw1, hw2⟩ := hw k (by omega)
        have hfa := k_faultsAt (S := S) (lg := lg) (d := d - 1) (I := rdI I t n w pl pn) (t := t) (p := pl k) (at' := k) (m := m) (w := w) (by omega) ht (by omega) ((rdI_ne (by decide) (Or.inl (by decide))).trans hM.1) hM.2 (fun j hj => ⟨(rdI_row ht).trans (hw j (by omega)).1, (hw j (by omega)).2⟩) ((rdI_sc hw2).trans (hp k (by omega)).1) (hp k (by omega)).2
        have h9 := ih (k + 1) (by omega) (by omega)
        refine ms_aload_n dX0_faultless_29 rfl ?_
        refine ms_aload_n dX0_faultless_30 rfl ?_
        refine ms_iload dX0_faultless_31 rfl ?_
        refine qRV2 dX0_faultless_33 kX0_106 (by show _ < 178; first | decide | exact lt_sc (by omega) | exact lt_dy (by omega)) (by show (sh0 _).1 = _; first | rfl | rw [sh_sc (by omega)] | rw [sh_dy (by omega)]) (d := d - 1) (by show d - 1 + 1 ≤ d; omega) rfl rfl (Nat.le_of_ble_eq_true rfl) (Nat.le_of_ble_eq_true rfl) (hfa) rfl ?_
        refine ms_if_ne (tgt := 46) dX0_faultless_36 (by decide) (fun c36 => ?_) (fun c36 => ?_)
        · have e0 : ¬ faC I t n w pl pn m k = 0 := fun z => c36 (by show nI (faC I t n w pl pn m k) = 0; rw [z]; rfl)
          have e : fsG (faC I t n w pl pn m) (k + 1) = fsG (faC I t n w pl pn m) k := if_neg e0
          rw [e] at h9
          refine n_iinc dX0_faultless_46 rfl ?_
          refine ms_goto (tgt := 20) dX0_faultless_49 (by decide) ?_
          exact h9
        · have hlt : faC I t n w pl pn m k < 64 := by
            have hb : ∀ c k, b2n c k ≤ k := fun c k => by unfold b2n; split <;> omega
            unfold faC faN fa1 fa2 fa3 fa4 fa5 fa6
            have := hb (bt (rdI I t n w pl pn (dyI t) 4) (pl k)) 1
            have := hb (wlC (rdI I t n w pl pn) (w k) && dkC (rdI I t n w pl pn) t k) 2
            have := hb (!decide (rdI I t n w pl pn (scI (w k)) 4 &&& rdI I t n w pl pn (dyI t) 3 = 0)) 4
            have := hb (!decide (rdI I t n w pl pn (scI (w k)) 4 &&& rdI I t n w pl pn 75 9 = 0)) 8
            have := hb (eaC (rdI I t n w pl pn) w (w k) k m) 16
            have := hb (!decide (rdI I t n w pl pn 75 10 = 0)) 32
            omega
          have e0 : faC I t n w pl pn m k = 0 := by
            have h8 : nI (faC I t n w pl pn m k) = nI 0 := c36
            exact (nI_eq (by omega) (by omega)).mp h8
          have e : fsG (faC I t n w pl pn m) (k + 1) = fsG (faC I t n w pl pn m) k ||| (nI 1 <<< (nI k &&& 31)) := if_pos e0
          rw [e] at h9
          refine ms_iload_n dX0_faultless_39 rfl ?_
          refine ms_iconst (v := nI 1) dX0_faultless_40 (by decide) ?_
          refine ms_iload dX0_faultless_41 rfl ?_
          refine ms_ishl dX0_faultless_43 ?_
          refine ms_ior dX0_faultless_44 ?_
          refine ms_istore_n dX0_faultless_45 (Nat.le_of_ble_eq_true rfl) ?_
          refine n_iinc dX0_faultless_46 rfl ?_
          refine ms_goto (tgt := 20) dX0_faultless_49 (by decide) ?_
          exact h9
  refine ms_aload_n dX0_faultless_0 rfl ?_
  refine q_getr dX0_faultless_1 fX0_20 kd_0_2 (by first | decide | exact lt_sc (by omega) | exact lt_dy (by omega) | exact lt_rw (by omega) | exact lt_wa (by omega) | exact lt_le (by omega)) (by first | rfl | rw [sh_sc (by omega)] | rw [sh_dy (by omega)]) (by first | rfl | exact rf_wa (by omega) | exact rf_le (by omega) | exact rf_rw (by omega)) ?_
  refine ms_iload_n dX0_faultless_4 rfl ?_
  refine q_aald dX0_faultless_5 (by first | exact Or.inl ⟨rfl, by omega, rfl⟩ | exact Or.inr ⟨rfl, by omega, rfl⟩) ?_
  refine ms_astore_n dX0_faultless_6 (Nat.le_of_ble_eq_true rfl) ?_
  refine ms_aload_n dX0_faultless_7 rfl ?_
  refine q_getr dX0_faultless_8 fX0_33 kd_0_3 (by first | decide | exact lt_sc (by omega) | exact lt_dy (by omega) | exact lt_rw (by omega) | exact lt_wa (by omega) | exact lt_le (by omega)) (by first | rfl | rw [sh_sc (by omega)] | rw [sh_dy (by omega)]) (by first | rfl | exact rf_wa (by omega) | exact rf_le (by omega) | exact rf_rw (by omega)) ?_
  refine ms_aload_n dX0_faultless_11 rfl ?_
  refine qRV1 dX0_faultless_12 kX0_92 (by show _ < 178; first | decide | exact lt_sc (by omega) | exact lt_dy (by omega)) (by show (sh0 _).1 = _; first | rfl | rw [sh_sc (by omega)] | rw [sh_dy (by omega)]) (d := d - 1) (by show d - 1 + 1 ≤ d; omega) rfl (Nat.le_of_ble_eq_true rfl) (Nat.le_of_ble_eq_true rfl) (k_read (by omega) hD hP) rfl ?_
  refine ms_iconst (v := nI 0) dX0_faultless_15 (by decide) ?_
  refine ms_istore_n dX0_faultless_16 (Nat.le_of_ble_eq_true rfl) ?_
  refine ms_iconst (v := nI 0) dX0_faultless_17 (by decide) ?_
  refine ms_istore dX0_faultless_18 (Nat.le_of_ble_eq_true rfl) ?_
  exact loop (n + 1) 0 (by omega) (by omega)

