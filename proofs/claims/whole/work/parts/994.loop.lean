-- NAME loop
/-! the law: round by round -/
theorem lp_gt {L i : Nat} (hL : L ≤ 4000) (hi : i ≤ 4000) : nI L - nI 6 < nI i ↔ L < i + 6 := by
  by_cases h : 6 ≤ L
  · rw [show nI L - nI 6 = nI (L - 6) from pk_sub h, nI_ltI (by omega) (by omega)]
    omega
  · refine ⟨fun _ => by omega, fun _ => ?_⟩
    have h0 : nI L - nI 6 < 0 := by
      rcases (show L = 0 ∨ L = 1 ∨ L = 2 ∨ L = 3 ∨ L = 4 ∨ L = 5 by omega) with rfl | rfl | rfl | rfl | rfl | rfl <;> decide
    have h1 : (0 : Int32) ≤ nI i := (nI_leI (a := 0) (by omega) (by omega)).mpr (Nat.zero_le _)
    exact Int32.lt_of_lt_of_le h0 h1
theorem and31 (x : Int32) : ∃ k, k < 32 ∧ x &&& nI 31 = nI k := by
  refine ⟨vN (x &&& nI 31), ?_, (nI_vN _).symm⟩
  show (x.toBitVec &&& (nI 31).toBitVec).toNat < 32
  rw [BitVec.toNat_and]
  exact Nat.lt_of_le_of_lt Nat.and_le_right (by decide)
theorem law_sw {S : m_S} {c i : Nat} {I : m_I} {lg : Int64} {d5 d6 : Option Value} {rc rs : Nat} (hi : i + 6 ≤ S.1) (hn : S.1 ≤ 3072) (hc : c < 512) (hI : Iv c I) (hC : Cr I I) (hrc : 512 - c ≤ rc) (hrs : 6 * (512 - c) ≤ rs) (hT : lT S c i) : m_W S lB 40 [some (.ref m_scr), some (.ref 0), some (.ref 143), some (.ref 177), some (.int (nI i)), d5, d6] [.int (S.2 i &&& nI 31)] (hh I lg) rc rs := by
  obtain ⟨k, hk, e⟩ := and31 (S.2 i)
  rw [e]
  rcases (show k = 0 ∨ k = 1 ∨ k = 2 ∨ k = 3 ∨ k = 4 ∨ k = 5 ∨ k = 6 ∨ k = 7 ∨ k = 8 ∨ k = 9 ∨ k = 10 ∨ k = 11 ∨ k = 12 ∨ k = 13 ∨ k = 14 ∨ k = 15 ∨ k = 16 ∨ k = 17 ∨ k = 18 ∨ k = 19 ∨ k = 20 ∨ k = 21 ∨ k = 22 ∨ k = 23 ∨ k = 24 ∨ k = 25 ∨ k = 26 ∨ k = 27 ∨ k = 28 ∨ k = 29 ∨ k = 30 ∨ k = 31 by omega) with rfl | rfl | rfl | rfl | rfl | rfl | rfl | rfl | rfl | rfl | rfl | rfl | rfl | rfl | rfl | rfl | rfl | rfl | rfl | rfl | rfl | rfl | rfl | rfl | rfl | rfl | rfl | rfl | rfl | rfl | rfl | rfl
  · exact ms_tabI (off := 120) (tgt := 160) dL_law_40 (by decide) (by decide) (by decide) (by decide) (l_scene hi hn hc hI hC hrc hrs hT)
  · exact ms_tabI (off := 256) (tgt := 296) dL_law_40 (by decide) (by decide) (by decide) (by decide) (l_lock hi hn hc hI hC hrc hrs hT)
  · exact ms_tabI (off := 300) (tgt := 340) dL_law_40 (by decide) (by decide) (by decide) (by decide) (l_omit hi hn hc hI hC hrc hrs hT)
  · exact ms_tabI (off := 356) (tgt := 396) dL_law_40 (by decide) (by decide) (by decide) (by decide) (l_label hi hn hc hI hC hrc hrs hT)
  · exact ms_tabI (off := 412) (tgt := 452) dL_law_40 (by decide) (by decide) (by decide) (by decide) (l_needs hi hn hc hI hC hrc hrs hT)
  · exact ms_tabI (off := 480) (tgt := 520) dL_law_40 (by decide) (by decide) (by decide) (by decide) (l_look hi hn hc hI hC hrc hrs hT)
  · exact ms_tabI (off := 588) (tgt := 628) dL_law_40 (by decide) (by decide) (by decide) (by decide) (l_clashes hi hn hc hI hC hrc hrs hT)
  · exact ms_tabI (off := 651) (tgt := 691) dL_law_40 (by decide) (by decide) (by decide) (by decide) (l_bind hi hn hc hI hC hrc hrs hT)
  · exact ms_tabI (off := 719) (tgt := 759) dL_law_40 (by decide) (by decide) (by decide) (by decide) (l_person hi hn hc hI hC hrc hrs hT)
  · exact ms_tabI (off := 827) (tgt := 867) dL_law_40 (by decide) (by decide) (by decide) (by decide) (l_ill hi hn hc hI hC hrc hrs hT)
  · exact ms_tabI (off := 923) (tgt := 963) dL_law_40 (by decide) (by decide) (by decide) (by decide) (l_place hi hn hc hI hC hrc hrs hT)
  · exact ms_tabI (off := 979) (tgt := 1019) dL_law_40 (by decide) (by decide) (by decide) (by decide) (l_permit hi hn hc hI hC hrc hrs hT)
  · exact ms_tabI (off := 1075) (tgt := 1115) dL_law_40 (by decide) (by decide) (by decide) (by decide) (l_move hi hn hc hI hC hrc hrs hT)
  · exact ms_tabI (off := 1155) (tgt := 1195) dL_law_40 (by decide) (by decide) (by decide) (by decide) (l_light hi hn hc hI hC hrc hrs hT)
  · exact ms_tabI (off := 1227) (tgt := 1267) dL_law_40 (by decide) (by decide) (by decide) (by decide) (l_put hi hn hc hI hC hrc hrs hT)
  · exact ms_tabI (off := 1307) (tgt := 1347) dL_law_40 (by decide) (by decide) (by decide) (by decide) (l_take hi hn hc hI hC hrc hrs hT)
  · exact ms_tabI (off := 1363) (tgt := 1403) dL_law_40 (by decide) (by decide) (by decide) (by decide) (l_fill hi hn hc hI hC hrc hrs hT)
  · exact ms_tabI (off := 1376) (tgt := 1416) dL_law_40 (by decide) (by decide) (by decide) (by decide) (l_mend hi hn hc hI hC hrc hrs hT)
  · exact ms_tabI (off := 1432) (tgt := 1472) dL_law_40 (by decide) (by decide) (by decide) (by decide) (l_strip hi hn hc hI hC hrc hrs hT)
  · exact ms_tabI (off := 1500) (tgt := 1540) dL_law_40 (by decide) (by decide) (by decide) (by decide) (l_ofScene hi hn hc hI hC hrc hrs hT)
  · exact ms_tabI (off := 1568) (tgt := 1608) dL_law_40 (by decide) (by decide) (by decide) (by decide) (l_call hi hn hc hI hC hrc hrs hT)
  · exact ms_tabI (off := 1664) (tgt := 1704) dL_law_40 (by decide) (by decide) (by decide) (by decide) (l_shoot hi hn hc hI hC hrc hrs hT)
  · exact ms_tabI (off := 1732) (tgt := 1772) dL_law_40 (by decide) (by decide) (by decide) (by decide) (l_lose hi hn hc hI hC hrc hrs hT)
  · exact ms_tabI (off := 1788) (tgt := 1828) dL_law_40 (by decide) (by decide) (by decide) (by decide) (l_next hi hn hc hI hC hrc hrs hT)
  · exact ms_tabI (off := 1832) (tgt := 1872) dL_law_40 (by decide) (by decide) (by decide) (by decide) (l_pay hi hn hc hI hC hrc hrs hT)
  · exact ms_tabI (off := 1916) (tgt := 1956) dL_law_40 (by decide) (by decide) (by decide) (by decide) (l_cost hi hn hc hI hC hrc hrs hT)
  · exact ms_tabO (tgt := 1969) dL_law_40 (Or.inr (by decide)) (by decide) (hT _ _ _ _ _ _ (Iv_same hI (by omega) (fun _ _ _ => rfl)) hC (by omega) (by omega))
  · exact ms_tabO (tgt := 1969) dL_law_40 (Or.inr (by decide)) (by decide) (hT _ _ _ _ _ _ (Iv_same hI (by omega) (fun _ _ _ => rfl)) hC (by omega) (by omega))
  · exact ms_tabO (tgt := 1969) dL_law_40 (Or.inr (by decide)) (by decide) (hT _ _ _ _ _ _ (Iv_same hI (by omega) (fun _ _ _ => rfl)) hC (by omega) (by omega))
  · exact ms_tabO (tgt := 1969) dL_law_40 (Or.inr (by decide)) (by decide) (hT _ _ _ _ _ _ (Iv_same hI (by omega) (fun _ _ _ => rfl)) hC (by omega) (by omega))
  · exact ms_tabO (tgt := 1969) dL_law_40 (Or.inr (by decide)) (by decide) (hT _ _ _ _ _ _ (Iv_same hI (by omega) (fun _ _ _ => rfl)) hC (by omega) (by omega))
  · exact ms_tabO (tgt := 1969) dL_law_40 (Or.inr (by decide)) (by decide) (hT _ _ _ _ _ _ (Iv_same hI (by omega) (fun _ _ _ => rfl)) hC (by omega) (by omega))
theorem law_loop {S : m_S} (hn : S.1 ≤ 3072) : ∀ (q c i : Nat) (I : m_I) (lg : Int64) (d5 d6 : Option Value) (rc rs : Nat), i = 6 * c → c ≤ 512 → 512 - c < q → Iv c I → Cr I I → 512 - c ≤ rc → 6 * (512 - c) ≤ rs → m_W S lB 23 [some (.ref m_scr), some (.ref 0), some (.ref 143), some (.ref 177), some (.int (nI i)), d5, d6] [] (hh I lg) rc rs := by
  intro q
  induction q with
  | zero => exact fun c i _ _ _ _ _ _ _ _ h => absurd h (Nat.not_lt_zero _)
  | succ q ih =>
    intro c i I lg d5 d6 rc rs e hc hq hI hC hrc hrs
    refine ms_iload dL_law_23 rfl ?_
    refine ms_aload_n dL_law_25 rfl ?_
    refine ms_slen dL_law_26 rfl ?_
    refine ms_bipush (v := nI 6) dL_law_27 (by decide) ?_
    refine ms_isub dL_law_29 ?_
    refine ms_icmp_gt (tgt := 1975) dL_law_30 (by decide) (fun z => ?_) (fun z => ?_)
    · refine ms_iconst (v := nI 1) dL_law_1975 (by decide) ?_
      exact ms_zret dL_law_1976 rfl rfl (Or.inr (by decide)) (by show some (Value.int (nI 1)) = some (Value.int 1); rfl)
    · have hi : i + 6 ≤ S.1 := Nat.le_of_not_lt (fun w => z ((lp_gt (by omega) (by omega)).mpr w))
      refine ms_aload_n dL_law_33 rfl ?_
      refine ms_iload dL_law_34 rfl ?_
      refine ms_sld dL_law_36 rfl (by show i < S.1; omega) (by show S.1 < 2 ^ 31; omega) ?_
      refine ms_bipush (v := nI 31) dL_law_37 (by decide) ?_
      refine ms_iand dL_law_39 ?_
      refine law_sw hi hn (by omega) hI hC hrc hrs (fun I2 lg2 e5 e6 rc2 rs2 hI2 hC2 h1 h2 => ?_)
      refine ms_iinc dL_law_1969 rfl (show _ + Int32.ofInt 6 = nI (_ + 6) from nI_add _ 6) ?_
      refine ms_goto (tgt := 23) dL_law_1972 (by decide) ?_
      exact ih (c + 1) (i + 6) I2 lg2 e5 e6 rc2 rs2 (by omega) (by omega) (by omega) hI2 hC2 h1 h2

