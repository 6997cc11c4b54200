/-! scenes, how they stand -/
def stN (om sh ow dy : Int32) : Nat := if ¬ om = 0 then 4 else if ¬ sh = 0 then 2 else if ¬ dy = -1 then 1 else if ¬ ow = 0 then 3 else 0
def stC (I : m_I) (s : Nat) : Nat := stN (I (scI s) 11) (I (scI s) 12) (I (scI s) 13) (I (scI s) 15)
def looseB (om sh dy : Int32) : Bool := decide (om = 0 ∧ sh = 0 ∧ dy = -1)
def loC (I : m_I) (s : Nat) : Bool := looseB (I (scI s) 11) (I (scI s) 12) (I (scI s) 15)
theorem k_status {S : m_S} {I : m_I} {lg : Int64} {d s : Nat} (hs : s < 20) : m_R S M_X8_status d [.ref (scI s)] (hh I lg) (some (.int (nI (stC I s)))) (hh I lg) := by
  refine ms_aload_n dX8_status_0 rfl ?_
  refine q_geti dX8_status_1 fX8_28 (by rw [kd_8_11]; decide) (by first | decide | exact lt_sc (by omega) | exact lt_dy (by omega) | exact lt_rw (by omega) | exact lt_wa (by omega) | exact lt_le (by omega)) (by first | rfl | rw [sh_sc (by omega)] | rw [sh_dy (by omega)]) (by first | assumption | ((repeat ((with_reducible apply m_up2_tr); · first | omega | (intro z; (try unfold scI at z); (try unfold dyI at z); (try unfold rwI at z); (try unfold waI at z); (try unfold leI at z); omega))); first | assumption | exact m_up2_eq | rfl)) ?_
  refine ms_if_eq (tgt := 9) dX8_status_4 (by decide) (fun c4 => ?_) (fun c4 => ?_)
  · refine ms_aload_n dX8_status_9 rfl ?_
    refine q_geti dX8_status_10 fX8_32 (by rw [kd_8_12]; decide) (by first | decide | exact lt_sc (by omega) | exact lt_dy (by omega) | exact lt_rw (by omega) | exact lt_wa (by omega) | exact lt_le (by omega)) (by first | rfl | rw [sh_sc (by omega)] | rw [sh_dy (by omega)]) (by first | assumption | ((repeat ((with_reducible apply m_up2_tr); · first | omega | (intro z; (try unfold scI at z); (try unfold dyI at z); (try unfold rwI at z); (try unfold waI at z); (try unfold leI at z); omega))); first | assumption | exact m_up2_eq | rfl)) ?_
    refine ms_if_eq (tgt := 18) dX8_status_13 (by decide) (fun c13 => ?_) (fun c13 => ?_)
    · refine ms_aload_n dX8_status_18 rfl ?_
      refine q_geti dX8_status_19 fX8_18 (by rw [kd_8_15]; decide) (by first | decide | exact lt_sc (by omega) | exact lt_dy (by omega) | exact lt_rw (by omega) | exact lt_wa (by omega) | exact lt_le (by omega)) (by first | rfl | rw [sh_sc (by omega)] | rw [sh_dy (by omega)]) (by first | assumption | ((repeat ((with_reducible apply m_up2_tr); · first | omega | (intro z; (try unfold scI at z); (try unfold dyI at z); (try unfold rwI at z); (try unfold waI at z); (try unfold leI at z); omega))); first | assumption | exact m_up2_eq | rfl)) ?_
      refine ms_iconst (v := -1) dX8_status_22 (by decide) ?_
      refine ms_icmp_eq (tgt := 28) dX8_status_23 (by decide) (fun c23 => ?_) (fun c23 => ?_)
      · refine ms_aload_n dX8_status_28 rfl ?_
        refine q_geti dX8_status_29 fX8_35 (by rw [kd_8_13]; decide) (by first | decide | exact lt_sc (by omega) | exact lt_dy (by omega) | exact lt_rw (by omega) | exact lt_wa (by omega) | exact lt_le (by omega)) (by first | rfl | rw [sh_sc (by omega)] | rw [sh_dy (by omega)]) (by first | assumption | ((repeat ((with_reducible apply m_up2_tr); · first | omega | (intro z; (try unfold scI at z); (try unfold dyI at z); (try unfold rwI at z); (try unfold waI at z); (try unfold leI at z); omega))); first | assumption | exact m_up2_eq | rfl)) ?_
        refine ms_if_eq (tgt := 39) dX8_status_32 (by decide) (fun c32 => ?_) (fun c32 => ?_)
        · refine ms_iconst (v := nI 0) dX8_status_39 (by decide) ?_
          refine ms_iret dX8_status_40 rfl rfl ⟨?_, ?_⟩
          · simp_all [stC, stN]
          · rfl
        · refine ms_iconst (v := nI 3) dX8_status_35 (by decide) ?_
          refine ms_goto (tgt := 40) dX8_status_36 (by decide) ?_
          refine ms_iret dX8_status_40 rfl rfl ⟨?_, ?_⟩
          · simp_all [stC, stN]
          · rfl
      · refine ms_iconst (v := nI 1) dX8_status_26 (by decide) ?_
        refine ms_iret dX8_status_27 rfl rfl ⟨?_, ?_⟩
        · simp_all [stC, stN]
        · rfl
    · refine ms_iconst (v := nI 2) dX8_status_16 (by decide) ?_
      refine ms_iret dX8_status_17 rfl rfl ⟨?_, ?_⟩
      · simp_all [stC, stN]
      · rfl
  · refine ms_iconst (v := nI 4) dX8_status_7 (by decide) ?_
    refine ms_iret dX8_status_8 rfl rfl ⟨?_, ?_⟩
    · simp_all [stC, stN]
    · rfl
theorem k_isLoose {S : m_S} {I : m_I} {lg : Int64} {d s : Nat} (hs : s < 20) : m_R S M_X8_isLoose d [.ref (scI s)] (hh I lg) (some (.int (bi (loC I s)))) (hh I lg) := by
  refine ms_aload_n dX8_isLoose_0 rfl ?_
  refine q_geti dX8_isLoose_1 fX8_28 (by rw [kd_8_11]; decide) (by first | decide | exact lt_sc (by omega) | exact lt_dy (by omega) | exact lt_rw (by omega) | exact lt_wa (by omega) | exact lt_le (by omega)) (by first | rfl | rw [sh_sc (by omega)] | rw [sh_dy (by omega)]) (by first | assumption | ((repeat ((with_reducible apply m_up2_tr); · first | omega | (intro z; (try unfold scI at z); (try unfold dyI at z); (try unfold rwI at z); (try unfold waI at z); (try unfold leI at z); omega))); first | assumption | exact m_up2_eq | rfl)) ?_
  refine ms_if_ne (tgt := 26) dX8_isLoose_4 (by decide) (fun c4 => ?_) (fun c4 => ?_)
  · refine ms_iconst (v := nI 0) dX8_isLoose_26 (by decide) ?_
    refine ms_zret dX8_isLoose_27 rfl rfl (by first | exact Or.inl (by decide) | exact Or.inr (by decide) | assumption | exact bi_01 _) ⟨?_, ?_⟩
    · simp_all [loC, looseB, bi] <;> rfl
    · rfl
  · refine ms_aload_n dX8_isLoose_7 rfl ?_
    refine q_geti dX8_isLoose_8 fX8_32 (by rw [kd_8_12]; decide) (by first | decide | exact lt_sc (by omega) | exact lt_dy (by omega) | exact lt_rw (by omega) | exact lt_wa (by omega) | exact lt_le (by omega)) (by first | rfl | rw [sh_sc (by omega)] | rw [sh_dy (by omega)]) (by first | assumption | ((repeat ((with_reducible apply m_up2_tr); · first | omega | (intro z; (try unfold scI at z); (try unfold dyI at z); (try unfold rwI at z); (try unfold waI at z); (try unfold leI at z); omega))); first | assumption | exact m_up2_eq | rfl)) ?_
    refine ms_if_ne (tgt := 26) dX8_isLoose_11 (by decide) (fun c11 => ?_) (fun c11 => ?_)
    · refine ms_iconst (v := nI 0) dX8_isLoose_26 (by decide) ?_
      refine ms_zret dX8_isLoose_27 rfl rfl (by first | exact Or.inl (by decide) | exact Or.inr (by decide) | assumption | exact bi_01 _) ⟨?_, ?_⟩
      · simp_all [loC, looseB, bi] <;> rfl
      · rfl
    · refine ms_aload_n dX8_isLoose_14 rfl ?_
      refine q_geti dX8_isLoose_15 fX8_18 (by rw [kd_8_15]; decide) (by first | decide | exact lt_sc (by omega) | exact lt_dy (by omega) | exact lt_rw (by omega) | exact lt_wa (by omega) | exact lt_le (by omega)) (by first | rfl | rw [sh_sc (by omega)] | rw [sh_dy (by omega)]) (by first | assumption | ((repeat ((with_reducible apply m_up2_tr); · first | omega | (intro z; (try unfold scI at z); (try unfold dyI at z); (try unfold rwI at z); (try unfold waI at z); (try unfold leI at z); omega))); first | assumption | exact m_up2_eq | rfl)) ?_
      refine ms_iconst (v := -1) dX8_isLoose_18 (by decide) ?_
      refine ms_icmp_ne (tgt := 26) dX8_isLoose_19 (by decide) (fun c19 => ?_) (fun c19 => ?_)
      · refine ms_iconst (v := nI 0) dX8_isLoose_26 (by decide) ?_
        refine ms_zret dX8_isLoose_27 rfl rfl (by first | exact Or.inl (by decide) | exact Or.inr (by decide) | assumption | exact bi_01 _) ⟨?_, ?_⟩
        · simp_all [loC, looseB, bi] <;> rfl
        · rfl
      · refine ms_iconst (v := nI 1) dX8_isLoose_22 (by decide) ?_
        refine ms_goto (tgt := 27) dX8_isLoose_23 (by decide) ?_
        refine ms_zret dX8_isLoose_27 rfl rfl (by first | exact Or.inl (by decide) | exact Or.inr (by decide) | assumption | exact bi_01 _) ⟨?_, ?_⟩
        · simp_all [loC, looseB, bi] <;> rfl
        · rfl
def seC (I : m_I) (s : Nat) : Bool := decide (¬ I (scI s) 11 = 0 ∨ ¬ I (scI s) 12 = 0 ∨ ¬ I (scI s) 15 = -1)
theorem k_isSettled {S : m_S} {I : m_I} {lg : Int64} {d s : Nat} (hs : s < 20) : m_R S M_X8_isSettled d [.ref (scI s)] (hh I lg) (some (.int (bi (seC I s)))) (hh I lg) := by
  refine ms_aload_n dX8_isSettled_0 rfl ?_
  refine q_geti dX8_isSettled_1 fX8_28 (by rw [kd_8_11]; decide) (by first | decide | exact lt_sc (by omega) | exact lt_dy (by omega) | exact lt_rw (by omega) | exact lt_wa (by omega) | exact lt_le (by omega)) (by first | rfl | rw [sh_sc (by omega)] | rw [sh_dy (by omega)]) (by first | assumption | ((repeat ((with_reducible apply m_up2_tr); · first | omega | (intro z; (try unfold scI at z); (try unfold dyI at z); (try unfold rwI at z); (try unfold waI at z); (try unfold leI at z); omega))); first | assumption | exact m_up2_eq | rfl)) ?_
  refine ms_if_ne (tgt := 22) dX8_isSettled_4 (by decide) (fun c4 => ?_) (fun c4 => ?_)
  · refine ms_iconst (v := nI 1) dX8_isSettled_22 (by decide) ?_
    refine ms_goto (tgt := 27) dX8_isSettled_23 (by decide) ?_
    refine ms_zret dX8_isSettled_27 rfl rfl (by first | exact Or.inl (by decide) | exact Or.inr (by decide) | assumption | exact bi_01 _) ⟨?_, ?_⟩
    · simp_all [seC, bi] <;> rfl
    · rfl
  · refine ms_aload_n dX8_isSettled_7 rfl ?_
    refine q_geti dX8_isSettled_8 fX8_32 (by rw [kd_8_12]; decide) (by first | decide | exact lt_sc (by omega) | exact lt_dy (by omega) | exact lt_rw (by omega) | exact lt_wa (by omega) | exact lt_le (by omega)) (by first | rfl | rw [sh_sc (by omega)] | rw [sh_dy (by omega)]) (by first | assumption | ((repeat ((with_reducible apply m_up2_tr); · first | omega | (intro z; (try unfold scI at z); (try unfold dyI at z); (try unfold rwI at z); (try unfold waI at z); (try unfold leI at z); omega))); first | assumption | exact m_up2_eq | rfl)) ?_
    refine ms_if_ne (tgt := 22) dX8_isSettled_11 (by decide) (fun c11 => ?_) (fun c11 => ?_)
    · refine ms_iconst (v := nI 1) dX8_isSettled_22 (by decide) ?_
      refine ms_goto (tgt := 27) dX8_isSettled_23 (by decide) ?_
      refine ms_zret dX8_isSettled_27 rfl rfl (by first | exact Or.inl (by decide) | exact Or.inr (by decide) | assumption | exact bi_01 _) ⟨?_, ?_⟩
      · simp_all [seC, bi] <;> rfl
      · rfl
    · refine ms_aload_n dX8_isSettled_14 rfl ?_
      refine q_geti dX8_isSettled_15 fX8_18 (by rw [kd_8_15]; decide) (by first | decide | exact lt_sc (by omega) | exact lt_dy (by omega) | exact lt_rw (by omega) | exact lt_wa (by omega) | exact lt_le (by omega)) (by first | rfl | rw [sh_sc (by omega)] | rw [sh_dy (by omega)]) (by first | assumption | ((repeat ((with_reducible apply m_up2_tr); · first | omega | (intro z; (try unfold scI at z); (try unfold dyI at z); (try unfold rwI at z); (try unfold waI at z); (try unfold leI at z); omega))); first | assumption | exact m_up2_eq | rfl)) ?_
      refine ms_iconst (v := -1) dX8_isSettled_18 (by decide) ?_
      refine ms_icmp_eq (tgt := 26) dX8_isSettled_19 (by decide) (fun c19 => ?_) (fun c19 => ?_)
      · refine ms_iconst (v := nI 0) dX8_isSettled_26 (by decide) ?_
        refine ms_zret dX8_isSettled_27 rfl rfl (by first | exact Or.inl (by decide) | exact Or.inr (by decide) | assumption | exact bi_01 _) ⟨?_, ?_⟩
        · simp_all [seC, bi] <;> rfl
        · rfl
      · refine ms_iconst (v := nI 1) dX8_isSettled_22 (by decide) ?_
        refine ms_goto (tgt := 27) dX8_isSettled_23 (by decide) ?_
        refine ms_zret dX8_isSettled_27 rfl rfl (by first | exact Or.inl (by decide) | exact Or.inr (by decide) | assumption | exact bi_01 _) ⟨?_, ?_⟩
        · simp_all [seC, bi] <;> rfl
        · rfl
def lasC (I : m_I) (s : Nat) (e : Int32) : Int32 := if I (scI s) 12 = 0 then I (scI s) 3 * e else I (scI s) 14
theorem k_lasts {S : m_S} {I : m_I} {lg : Int64} {d s : Nat} (hs : s < 20) (e : Int32) : m_R S M_X8_lasts d [.ref (scI s), .int e] (hh I lg) (some (.int (lasC I s e))) (hh I lg) := by
  refine ms_aload_n dX8_lasts_0 rfl ?_
  refine q_geti dX8_lasts_1 fX8_32 (by rw [kd_8_12]; decide) (by first | decide | exact lt_sc (by omega) | exact lt_dy (by omega) | exact lt_rw (by omega) | exact lt_wa (by omega) | exact lt_le (by omega)) (by first | rfl | rw [sh_sc (by omega)] | rw [sh_dy (by omega)]) (by first | assumption | ((repeat ((with_reducible apply m_up2_tr); · first | omega | (intro z; (try unfold scI at z); (try unfold dyI at z); (try unfold rwI at z); (try unfold waI at z); (try unfold leI at z); omega))); first | assumption | exact m_up2_eq | rfl)) ?_
  refine ms_if_eq (tgt := 14) dX8_lasts_4 (by decide) (fun c4 => ?_) (fun c4 => ?_)
  · refine ms_aload_n dX8_lasts_14 rfl ?_
    refine q_geti dX8_lasts_15 fX8_41 (by rw [kd_8_3]; decide) (by first | decide | exact lt_sc (by omega) | exact lt_dy (by omega) | exact lt_rw (by omega) | exact lt_wa (by omega) | exact lt_le (by omega)) (by first | rfl | rw [sh_sc (by omega)] | rw [sh_dy (by omega)]) (by first | assumption | ((repeat ((with_reducible apply m_up2_tr); · first | omega | (intro z; (try unfold scI at z); (try unfold dyI at z); (try unfold rwI at z); (try unfold waI at z); (try unfold leI at z); omega))); first | assumption | exact m_up2_eq | rfl)) ?_
    refine ms_iload_n dX8_lasts_18 rfl ?_
    refine ms_imul dX8_lasts_19 ?_
    refine ms_iret dX8_lasts_20 rfl rfl ⟨?_, ?_⟩
    · simp_all [lasC]
    · rfl
  · refine ms_aload_n dX8_lasts_7 rfl ?_
    refine q_geti dX8_lasts_8 fX8_38 (by rw [kd_8_14]; decide) (by first | decide | exact lt_sc (by omega) | exact lt_dy (by omega) | exact lt_rw (by omega) | exact lt_wa (by omega) | exact lt_le (by omega)) (by first | rfl | rw [sh_sc (by omega)] | rw [sh_dy (by omega)]) (by first | assumption | ((repeat ((with_reducible apply m_up2_tr); · first | omega | (intro z; (try unfold scI at z); (try unfold dyI at z); (try unfold rwI at z); (try unfold waI at z); (try unfold leI at z); omega))); first | assumption | exact m_up2_eq | rfl)) ?_
    refine ms_goto (tgt := 20) dX8_lasts_11 (by decide) ?_
    refine ms_iret dX8_lasts_20 rfl rfl ⟨?_, ?_⟩
    · simp_all [lasC]
    · rfl
def wlC (I : m_I) (s : Nat) : Bool := decide (¬ I (scI s) 1 = 0 ∧ I (scI s) 2 = 0)
theorem k_wantsLight {S : m_S} {I : m_I} {lg : Int64} {d s : Nat} (hs : s < 20) : m_R S M_X8_wantsLight d [.ref (scI s)] (hh I lg) (some (.int (bi (wlC I s)))) (hh I lg) := by
  refine ms_aload_n dX8_wantsLight_0 rfl ?_
  refine q_geti dX8_wantsLight_1 fX8_44 (by rw [kd_8_1]; decide) (by first | decide | exact lt_sc (by omega) | exact lt_dy (by omega) | exact lt_rw (by omega) | exact lt_wa (by omega) | exact lt_le (by omega)) (by first | rfl | rw [sh_sc (by omega)] | rw [sh_dy (by omega)]) (by first | assumption | ((repeat ((with_reducible apply m_up2_tr); · first | omega | (intro z; (try unfold scI at z); (try unfold dyI at z); (try unfold rwI at z); (try unfold waI at z); (try unfold leI at z); omega))); first | assumption | exact m_up2_eq | rfl)) ?_
  refine ms_if_eq (tgt := 18) dX8_wantsLight_4 (by decide) (fun c4 => ?_) (fun c4 => ?_)
  · refine ms_iconst (v := nI 0) dX8_wantsLight_18 (by decide) ?_
    refine ms_zret dX8_wantsLight_19 rfl rfl (by first | exact Or.inl (by decide) | exact Or.inr (by decide) | assumption | exact bi_01 _) ⟨?_, ?_⟩
    · simp_all [wlC, bi] <;> rfl
    · rfl
  · refine ms_aload_n dX8_wantsLight_7 rfl ?_
    refine q_geti dX8_wantsLight_8 fX8_47 (by rw [kd_8_2]; decide) (by first | decide | exact lt_sc (by omega) | exact lt_dy (by omega) | exact lt_rw (by omega) | exact lt_wa (by omega) | exact lt_le (by omega)) (by first | rfl | rw [sh_sc (by omega)] | rw [sh_dy (by omega)]) (by first | assumption | ((repeat ((with_reducible apply m_up2_tr); · first | omega | (intro z; (try unfold scI at z); (try unfold dyI at z); (try unfold rwI at z); (try unfold waI at z); (try unfold leI at z); omega))); first | assumption | exact m_up2_eq | rfl)) ?_
    refine ms_if_ne (tgt := 18) dX8_wantsLight_11 (by decide) (fun c11 => ?_) (fun c11 => ?_)
    · refine ms_iconst (v := nI 0) dX8_wantsLight_18 (by decide) ?_
      refine ms_zret dX8_wantsLight_19 rfl rfl (by first | exact Or.inl (by decide) | exact Or.inr (by decide) | assumption | exact bi_01 _) ⟨?_, ?_⟩
      · simp_all [wlC, bi] <;> rfl
      · rfl
    · refine ms_iconst (v := nI 1) dX8_wantsLight_14 (by decide) ?_
      refine ms_goto (tgt := 19) dX8_wantsLight_15 (by decide) ?_
      refine ms_zret dX8_wantsLight_19 rfl rfl (by first | exact Or.inl (by decide) | exact Or.inr (by decide) | assumption | exact bi_01 _) ⟨?_, ?_⟩
      · simp_all [wlC, bi] <;> rfl
      · rfl
theorem k_keepTake {S : m_S} {I : m_I} {lg : Int64} {d s : Nat} (hs : s < 20) (x : Int32) : m_R S M_X8_keepTake d [.ref (scI s), .int x] (hh I lg) none (hh (m_up2 (m_up2 (m_up2 I (scI s) 12 (nI 1)) (scI s) 13 (nI 0)) (scI s) 14 x) lg) := by
  refine ms_aload_n dX8_keepTake_0 rfl ?_
  refine ms_iconst (v := nI 1) dX8_keepTake_1 (by decide) ?_
  refine q_putz dX8_keepTake_2 fX8_32 pX8_8_12 kd_8_12 (by first | decide | exact lt_sc (by omega) | exact lt_dy (by omega) | exact lt_rw (by omega) | exact lt_wa (by omega) | exact lt_le (by omega)) (by first | rfl | rw [sh_sc (by omega)] | rw [sh_dy (by omega)]) (by first | exact Or.inl (by decide) | exact Or.inr (by decide) | assumption | exact bi_01 _) ?_
  refine ms_aload_n dX8_keepTake_5 rfl ?_
  refine ms_iconst (v := nI 0) dX8_keepTake_6 (by decide) ?_
  refine q_putz dX8_keepTake_7 fX8_35 pX8_8_13 kd_8_13 (by first | decide | exact lt_sc (by omega) | exact lt_dy (by omega) | exact lt_rw (by omega) | exact lt_wa (by omega) | exact lt_le (by omega)) (by first | rfl | rw [sh_sc (by omega)] | rw [sh_dy (by omega)]) (by first | exact Or.inl (by decide) | exact Or.inr (by decide) | assumption | exact bi_01 _) ?_
  refine ms_aload_n dX8_keepTake_10 rfl ?_
  refine ms_iload_n dX8_keepTake_11 rfl ?_
  refine q_puti dX8_keepTake_12 fX8_38 pX8_8_14 kd_8_14 (by first | decide | exact lt_sc (by omega) | exact lt_dy (by omega) | exact lt_rw (by omega) | exact lt_wa (by omega) | exact lt_le (by omega)) (by first | rfl | rw [sh_sc (by omega)] | rw [sh_dy (by omega)]) ?_
  refine ms_vret dX8_keepTake_15 rfl rfl ⟨rfl, ?_⟩
  · rfl
theorem k_countOf {S : m_S} {I : m_I} {lg : Int64} {d : Nat} (hd : 2 ≤ d) {m q : Nat} (hm : I 1 3 = nI m) (hm2 : m ≤ 20) (hq : q < 9) : m_R S M_X9_countOf d [.ref 1, .int (nI q)] (hh I lg) (some (.int (nI (fb_ct (fun i => decide (stC I i = q)) m)))) (hh I lg) := by
  have loop : ∀ n k, k ≤ m → m - k < n → m_W S (M_X9_countOf, d, fun w g => w = some (.int (nI (fb_ct (fun i => decide (stC I i = q)) m))) ∧ g = hh I lg, fun _ _ => False) 4 [some (.ref 1), some (.int (nI q)), some (.int (nI (fb_ct (fun i => decide (stC I i = q)) k))), some (.int (nI k))] [] (hh I lg) 0 0 := by
    intro n
    induction n with
    | zero => intro k _ h; omega
    | succ n ih =>
      intro k hk hn
      have hst : stC I k < 5 := by unfold stC stN; split <;> (try split) <;> (try split) <;> (try split) <;> omega
      refine ms_iload_n dX9_countOf_4 rfl ?_
      refine ms_aload_n dX9_countOf_5 rfl ?_
      refine q_geti dX9_countOf_6 fX9_25 (by rw [kd_9_3]; decide) (by first | decide | exact lt_sc (by omega) | exact lt_dy (by omega) | exact lt_rw (by omega) | exact lt_wa (by omega) | exact lt_le (by omega)) (by first | rfl | rw [sh_sc (by omega)] | rw [sh_dy (by omega)]) (by first | assumption | ((repeat ((with_reducible apply m_up2_tr); · first | omega | (intro z; (try unfold scI at z); (try unfold dyI at z); (try unfold rwI at z); (try unfold waI at z); (try unfold leI at z); omega))); first | assumption | exact m_up2_eq | rfl)) ?_
      refine n_icmp_ge (tgt := 34) dX9_countOf_9 (by decide) (by omega) (by omega) (fun c9 => ?_) (fun c9 => ?_)
      · refine ms_iload_n dX9_countOf_34 rfl ?_
        refine ms_iret dX9_countOf_35 rfl rfl ⟨?_, ?_⟩
        · (obtain rfl : k = m := (by omega)); rfl
        · rfl
      · refine ms_aload_n dX9_countOf_12 rfl ?_
        refine q_getr dX9_countOf_13 fX9_11 kd_9_0 (by first | decide | exact lt_sc (by omega) | exact lt_dy (by omega) | exact lt_rw (by omega) | exact lt_wa (by omega) | exact lt_le (by omega)) (by first | rfl | rw [sh_sc (by omega)] | rw [sh_dy (by omega)]) (by first | rfl | exact rf_wa (by omega) | exact rf_le (by omega) | exact rf_rw (by omega)) ?_
        refine ms_iload_n dX9_countOf_16 rfl ?_
        refine q_aald dX9_countOf_17 (by first | exact Or.inl ⟨rfl, by omega, rfl⟩ | exact Or.inr ⟨rfl, by omega, rfl⟩) ?_
        refine qRV0 dX9_countOf_18 kX9_68 (by show _ < 178; first | decide | exact lt_sc (by omega) | exact lt_dy (by omega)) (by show (sh0 _).1 = _; first | rfl | rw [sh_sc (by omega)] | rw [sh_dy (by omega)]) (d := d - 1) (by show d - 1 + 1 ≤ d; omega)  (Nat.le_of_ble_eq_true rfl) (Nat.le_of_ble_eq_true rfl) (k_status (by omega)) rfl ?_
        refine ms_iload_n dX9_countOf_21 rfl ?_
        refine n_icmp_ne (tgt := 28) dX9_countOf_22 (by decide) (by omega) (by omega) (fun c22 => ?_) (fun c22 => ?_)
        · refine n_iinc dX9_countOf_28 rfl ?_
          refine ms_goto (tgt := 4) dX9_countOf_31 (by decide) ?_
          have e : fb_ct (fun i => decide (stC I i = q)) (k + 1) = fb_ct (fun i => decide (stC I i = q)) k + _ := fb_ct_succ _ k
          have ih2 := ih (k + 1) (by omega) (by omega)
          rw [e] at ih2
          simp only [c22, decide_true, decide_false, if_true, if_false, Bool.false_eq_true, Nat.add_zero] at ih2
          exact ih2
        · refine n_iinc dX9_countOf_25 rfl ?_
          refine n_iinc dX9_countOf_28 rfl ?_
          refine ms_goto (tgt := 4) dX9_countOf_31 (by decide) ?_
          have e : fb_ct (fun i => decide (stC I i = q)) (k + 1) = fb_ct (fun i => decide (stC I i = q)) k + _ := fb_ct_succ _ k
          have ih2 := ih (k + 1) (by omega) (by omega)
          rw [e] at ih2
          simp only [c22, decide_true, decide_false, if_true, if_false, Bool.false_eq_true, Nat.add_zero] at ih2
          exact ih2
  refine ms_iconst (v := nI 0) dX9_countOf_0 (by decide) ?_
  refine ms_istore_n dX9_countOf_1 (Nat.le_of_ble_eq_true rfl) ?_
  refine ms_iconst (v := nI 0) dX9_countOf_2 (by decide) ?_
  refine ms_istore_n dX9_countOf_3 (Nat.le_of_ble_eq_true rfl) ?_
  exact loop (m + 1) 0 (by omega) (by omega)

