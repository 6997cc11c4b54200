/-! Script: numbers and letters -/
theorem pdec (k : Nat) : nI k + Int32.ofInt (-1) = nI k - nI 1 := by
  rw [Int32.sub_eq_add_neg]
  rfl
/-- the number of the last one without a letter among the first k of the story -/
def nuC (I : m_I) (o : Nat → Nat) : Nat → Int32
  | 0 => nI 0
  | k + 1 => if I (scI (o k)) 7 = 0 then I (scI (o k)) 6 else nuC I o k
theorem k_numberAt {S : m_S} {I : m_I} {lg : Int64} {d m sp : Nat} {o : Nat → Nat} (hm2 : m ≤ 20) (ho : ∀ k, k < m → I 3 k = nI (o k) ∧ o k < 20) (hsp : sp ≤ m) : m_R S M_X9_numberAt d [.ref 1, .int (nI sp)] (hh I lg) (some (.int (nuC I o sp))) (hh I lg) := by
  have loop : ∀ k, k ≤ sp → nuC I o k = nuC I o sp → ∀ d3, m_W S (M_X9_numberAt, d, fun w g => w = some (.int (nuC I o sp)) ∧ g = hh I lg, fun _ _ => False) 4 [some (.ref 1), some (.int (nI sp)), some (.int (nI k - nI 1)), d3] [] (hh I lg) 0 0 := by
    intro k
    induction k with
    | zero =>
      intro h1 h2 d3
      refine ms_iload_n dX9_numberAt_4 rfl ?_
      refine ms_if_lt (tgt := 38) dX9_numberAt_5 (by decide) (fun c5 => ?_) (fun c5 => ?_)
      · refine ms_iconst (v := nI 0) dX9_numberAt_38 (by decide) ?_
        refine ms_iret dX9_numberAt_39 rfl rfl ⟨?_, ?_⟩
        · rw [← h2]; rfl
        · rfl
      · exact absurd (by decide) c5
    | succ k ih =>
      intro h1 h2 d3
      rw [show nI (k + 1) - nI 1 = nI k from pk_sub (by omega)]
      obtain ⟨hk1, hk2⟩ := ho k (by omega)
      refine ms_iload_n dX9_numberAt_4 rfl ?_
      refine ms_if_lt (tgt := 38) dX9_numberAt_5 (by decide) (fun c5 => ?_) (fun c5 => ?_)
      · exact absurd c5 (nI_pos (by omega))
      · refine ms_aload_n dX9_numberAt_8 rfl ?_
        refine q_getr dX9_numberAt_9 fX9_11 kd_9_0 (by first | decide | exact lt_sc (by omega) | exact lt_dy (by omega) | exact lt_rw (by omega) | exact lt_wa (by omega) | exact lt_le (by omega)) (by first | rfl | rw [sh_sc (by omega)] | rw [sh_dy (by omega)]) (by first | rfl | exact rf_wa (by omega) | exact rf_le (by omega) | exact rf_rw (by omega)) ?_
        refine ms_aload_n dX9_numberAt_12 rfl ?_
        refine q_getr dX9_numberAt_13 fX9_17 kd_9_1 (by first | decide | exact lt_sc (by omega) | exact lt_dy (by omega) | exact lt_rw (by omega) | exact lt_wa (by omega) | exact lt_le (by omega)) (by first | rfl | rw [sh_sc (by omega)] | rw [sh_dy (by omega)]) (by first | rfl | exact rf_wa (by omega) | exact rf_le (by omega) | exact rf_rw (by omega)) ?_
        refine ms_iload_n dX9_numberAt_16 rfl ?_
        refine q_iald dX9_numberAt_17 (by first | decide | exact lt_sc (by omega) | exact lt_dy (by omega) | exact lt_rw (by omega) | exact lt_wa (by omega) | exact lt_le (by omega)) (by first | rfl | exact sh_rw (by omega) | exact sh_wa (by omega) | exact sh_le (by omega)) (by omega) (by decide) (by first | assumption | ((repeat ((with_reducible apply m_up2_tr); · first | omega | (intro z; (try unfold scI at z); (try unfold dyI at z); (try unfold rwI at z); (try unfold waI at z); (try unfold leI at z); omega))); first | assumption | exact m_up2_eq | rfl)) ?_
        refine q_aald dX9_numberAt_18 (by first | exact Or.inl ⟨rfl, by omega, rfl⟩ | exact Or.inr ⟨rfl, by omega, rfl⟩) ?_
        refine ms_astore_n dX9_numberAt_19 (Nat.le_of_ble_eq_true rfl) ?_
        refine ms_aload_n dX9_numberAt_20 rfl ?_
        refine q_geti dX9_numberAt_21 fX9_58 (by rw [kd_8_7]; decide) (by first | decide | exact lt_sc (by omega) | exact lt_dy (by omega) | exact lt_rw (by omega) | exact lt_wa (by omega) | exact lt_le (by omega)) (by first | rfl | rw [sh_sc (by omega)] | rw [sh_dy (by omega)]) (by first | assumption | ((repeat ((with_reducible apply m_up2_tr); · first | omega | (intro z; (try unfold scI at z); (try unfold dyI at z); (try unfold rwI at z); (try unfold waI at z); (try unfold leI at z); omega))); first | assumption | exact m_up2_eq | rfl)) ?_
        refine ms_if_ne (tgt := 32) dX9_numberAt_24 (by decide) (fun c24 => ?_) (fun c24 => ?_)
        · have h3 : nuC I o (k + 1) = nuC I o k := if_neg c24
          refine ms_iinc dX9_numberAt_32 rfl (pdec k) ?_
          refine ms_goto (tgt := 4) dX9_numberAt_35 (by decide) ?_
          exact ih (by omega) (h3.symm.trans h2) _
        · refine ms_aload_n dX9_numberAt_27 rfl ?_
          refine q_geti dX9_numberAt_28 fX9_55 (by rw [kd_8_6]; decide) (by first | decide | exact lt_sc (by omega) | exact lt_dy (by omega) | exact lt_rw (by omega) | exact lt_wa (by omega) | exact lt_le (by omega)) (by first | rfl | rw [sh_sc (by omega)] | rw [sh_dy (by omega)]) (by first | assumption | ((repeat ((with_reducible apply m_up2_tr); · first | omega | (intro z; (try unfold scI at z); (try unfold dyI at z); (try unfold rwI at z); (try unfold waI at z); (try unfold leI at z); omega))); first | assumption | exact m_up2_eq | rfl)) ?_
          refine ms_iret dX9_numberAt_31 rfl rfl ⟨?_, ?_⟩
          · rw [← h2]; exact congrArg (fun z => some (Value.int z)) (if_pos c24).symm
          · rfl
  refine ms_iload_n dX9_numberAt_0 rfl ?_
  refine ms_iconst (v := nI 1) dX9_numberAt_1 (by decide) ?_
  refine ms_isub dX9_numberAt_2 ?_
  refine ms_istore_n dX9_numberAt_3 (Nat.le_of_ble_eq_true rfl) ?_
  exact loop sp (Nat.le_refl _) rfl _
/-- the letters that the first k scenes have with a number, as bits -/
def tkC (I : m_I) (x : Int32) : Nat → Int32
  | 0 => nI 0
  | k + 1 => if I (scI k) 6 = x then tkC I x k ||| (nI 1 <<< (I (scI k) 7 &&& 31)) else tkC I x k
theorem k_lowestLetter {S : m_S} {I : m_I} {lg : Int64} {d m q0 : Nat} {x : Int32} (hd : 2 ≤ d) (hm : I 1 3 = nI m) (hm2 : m ≤ 20) (hq1 : 1 ≤ q0) (hq2 : q0 ≤ 26) (hq3 : bt (tkC I x m) q0 = false) (hq4 : ∀ p, 1 ≤ p → p < q0 → bt (tkC I x m) p = true) : m_R S M_X9_lowestLetter d [.ref 1, .int x] (hh I lg) (some (.int (nI q0))) (hh I lg) := by
  have loop2 : ∀ (q k : Nat) (hk1 : 1 ≤ k), k ≤ q0 → q0 - k < q → m_W S (M_X9_lowestLetter, d, fun w9 g9 => w9 = some (.int (nI q0)) ∧ g9 = hh (I) lg, fun _ _ => False) 47 [some (.ref 1), some (.int x), some (.int (tkC I x m)), some (.int (nI k))] [] (hh (I) lg) 0 0 := by
    intro q
    induction q with
    | zero => intro k hk1 _ h; omega
    | succ q ih =>
      intro k hk1 hk hq
      refine ms_iload_n dX9_lowestLetter_47 rfl ?_
      refine ms_bipush (v := nI 26) dX9_lowestLetter_48 (by decide) ?_
      refine n_icmp_gt (tgt := 69) dX9_lowestLetter_50 (by decide) (by omega) (by omega) (fun c50 => ?_) (fun c50 => ?_)
      · omega
      · refine ms_iload_n dX9_lowestLetter_53 rfl ?_
        refine ms_iload_n dX9_lowestLetter_54 rfl ?_
        refine qRN2 dX9_lowestLetter_55 kX9_64 (d := d - 1) (by show d - 1 + 1 ≤ d; omega) rfl rfl (Nat.le_of_ble_eq_true rfl) (Nat.le_of_ble_eq_true rfl) (k_hasBit (b := k) _ (by omega)) rfl ?_
        refine ms_if_ne (tgt := 63) dX9_lowestLetter_58 (by decide) (fun c58 => ?_) (fun c58 => ?_)
        · have e := bi_n0.mp c58
          have hne : k ≠ q0 := fun z => by rw [z, hq3] at e; cases e
          refine n_iinc dX9_lowestLetter_63 rfl ?_
          refine ms_goto (tgt := 47) dX9_lowestLetter_66 (by decide) ?_
          exact ih (k + 1) (by omega) (by omega) (by omega)
        · have e := bi_0.mp c58
          have hne : k = q0 := by
            rcases Nat.lt_or_ge k q0 with z | z
            · rw [hq4 k hk1 z] at e; cases e
            · omega
          subst hne
          refine ms_iload_n dX9_lowestLetter_61 rfl ?_
          refine ms_iret dX9_lowestLetter_62 rfl rfl ⟨?_, ?_⟩
          · rfl
          · rfl
  have loop1 : ∀ (q k : Nat), k ≤ m → m - k < q → m_W S (M_X9_lowestLetter, d, fun w9 g9 => w9 = some (.int (nI q0)) ∧ g9 = hh (I) lg, fun _ _ => False) 4 [some (.ref 1), some (.int x), some (.int (tkC I x k)), some (.int (nI k))] [] (hh (I) lg) 0 0 := by
    intro q
    induction q with
    | zero => intro k  _ h; omega
    | succ q ih =>
      intro k  hk hq
      refine ms_iload_n dX9_lowestLetter_4 rfl ?_
      refine ms_aload_n dX9_lowestLetter_5 rfl ?_
      refine q_geti dX9_lowestLetter_6 fX9_25 (by rw [kd_9_3]; decide) (by first | decide | exact lt_sc (by omega) | exact lt_dy (by omega) | exact lt_rw (by omega) | exact lt_wa (by omega) | exact lt_le (by omega)) (by first | rfl | rw [sh_sc (by omega)] | rw [sh_dy (by omega)]) (by first | assumption | ((repeat ((with_reducible apply m_up2_tr); · first | omega | (intro z; (try unfold scI at z); (try unfold dyI at z); (try unfold rwI at z); (try unfold waI at z); (try unfold leI at z); omega))); first | assumption | exact m_up2_eq | rfl)) ?_
      refine n_icmp_ge (tgt := 45) dX9_lowestLetter_9 (by decide) (by omega) (by omega) (fun c9 => ?_) (fun c9 => ?_)
      · obtain rfl : k = m := by omega
        refine ms_iconst (v := nI 1) dX9_lowestLetter_45 (by decide) ?_
        refine ms_istore_n dX9_lowestLetter_46 (Nat.le_of_ble_eq_true rfl) ?_
        exact loop2 (q0 + 1) 1 (by omega) hq1 (by omega)
      · refine ms_aload_n dX9_lowestLetter_12 rfl ?_
        refine q_getr dX9_lowestLetter_13 fX9_11 kd_9_0 (by first | decide | exact lt_sc (by omega) | exact lt_dy (by omega) | exact lt_rw (by omega) | exact lt_wa (by omega) | exact lt_le (by omega)) (by first | rfl | rw [sh_sc (by omega)] | rw [sh_dy (by omega)]) (by first | rfl | exact rf_wa (by omega) | exact rf_le (by omega) | exact rf_rw (by omega)) ?_
        refine ms_iload_n dX9_lowestLetter_16 rfl ?_
        refine q_aald dX9_lowestLetter_17 (by first | exact Or.inl ⟨rfl, by omega, rfl⟩ | exact Or.inr ⟨rfl, by omega, rfl⟩) ?_
        refine q_geti dX9_lowestLetter_18 fX9_55 (by rw [kd_8_6]; decide) (by first | decide | exact lt_sc (by omega) | exact lt_dy (by omega) | exact lt_rw (by omega) | exact lt_wa (by omega) | exact lt_le (by omega)) (by first | rfl | rw [sh_sc (by omega)] | rw [sh_dy (by omega)]) rfl ?_
        refine ms_iload_n dX9_lowestLetter_21 rfl ?_
        refine ms_icmp_ne (tgt := 39) dX9_lowestLetter_22 (by decide) (fun c22 => ?_) (fun c22 => ?_)
        · have e : tkC I x (k + 1) = tkC I x k := if_neg c22
          have h9 := ih (k + 1) (by omega) (by omega)
          rw [e] at h9
          refine n_iinc dX9_lowestLetter_39 rfl ?_
          refine ms_goto (tgt := 4) dX9_lowestLetter_42 (by decide) ?_
          exact h9
        · have e : tkC I x (k + 1) = tkC I x k ||| (nI 1 <<< (I (scI k) 7 &&& 31)) := if_pos c22
          have h9 := ih (k + 1) (by omega) (by omega)
          rw [e] at h9
          refine ms_iload_n dX9_lowestLetter_25 rfl ?_
          refine ms_iconst (v := nI 1) dX9_lowestLetter_26 (by decide) ?_
          refine ms_aload_n dX9_lowestLetter_27 rfl ?_
          refine q_getr dX9_lowestLetter_28 fX9_11 kd_9_0 (by first | decide | exact lt_sc (by omega) | exact lt_dy (by omega) | exact lt_rw (by omega) | exact lt_wa (by omega) | exact lt_le (by omega)) (by first | rfl | rw [sh_sc (by omega)] | rw [sh_dy (by omega)]) (by first | rfl | exact rf_wa (by omega) | exact rf_le (by omega) | exact rf_rw (by omega)) ?_
          refine ms_iload_n dX9_lowestLetter_31 rfl ?_
          refine q_aald dX9_lowestLetter_32 (by first | exact Or.inl ⟨rfl, by omega, rfl⟩ | exact Or.inr ⟨rfl, by omega, rfl⟩) ?_
          refine q_geti dX9_lowestLetter_33 fX9_58 (by rw [kd_8_7]; decide) (by first | decide | exact lt_sc (by omega) | exact lt_dy (by omega) | exact lt_rw (by omega) | exact lt_wa (by omega) | exact lt_le (by omega)) (by first | rfl | rw [sh_sc (by omega)] | rw [sh_dy (by omega)]) rfl ?_
          refine ms_ishl dX9_lowestLetter_36 ?_
          refine ms_ior dX9_lowestLetter_37 ?_
          refine ms_istore_n dX9_lowestLetter_38 (Nat.le_of_ble_eq_true rfl) ?_
          refine n_iinc dX9_lowestLetter_39 rfl ?_
          refine ms_goto (tgt := 4) dX9_lowestLetter_42 (by decide) ?_
          exact h9
  refine ms_iconst (v := nI 0) dX9_lowestLetter_0 (by decide) ?_
  refine ms_istore_n dX9_lowestLetter_1 (Nat.le_of_ble_eq_true rfl) ?_
  refine ms_iconst (v := nI 0) dX9_lowestLetter_2 (by decide) ?_
  refine ms_istore_n dX9_lowestLetter_3 (Nat.le_of_ble_eq_true rfl) ?_
  exact loop1 (m + 1) 0 (by omega) (by omega)
theorem k_hasRoom {S : m_S} {I : m_I} {lg : Int64} {d m sp : Nat} {o : Nat → Nat} {b : Int32} (hd : 4 ≤ d) (hm : I 1 3 = nI m) (hm2 : m ≤ 20) (ho : ∀ k, k < m → I 3 k = nI (o k) ∧ o k < 20) (hsp : sp ≤ m)
    (hsb : ∀ d', 2 ≤ d' → m_R S M_X9_spotBehind d' [.ref 1, .int b] (hh I lg) (some (.int (nI sp))) (hh I lg))
    (hfr : ¬ I 1 4 = 0 → ∃ q, 1 ≤ q ∧ q ≤ 26 ∧ bt (tkC I (nuC I o sp) m) q = false ∧ ∀ p, 1 ≤ p → p < q → bt (tkC I (nuC I o sp) m) p = true) : m_R S M_X9_hasRoomBehind d [.ref 1, .int b] (hh I lg) (some (.int (bi (decide (m < 20))))) (hh I lg) := by
  refine ms_aload_n dX9_hasRoomBehind_0 rfl ?_
  refine q_geti dX9_hasRoomBehind_1 fX9_25 (by rw [kd_9_3]; decide) (by first | decide | exact lt_sc (by omega) | exact lt_dy (by omega) | exact lt_rw (by omega) | exact lt_wa (by omega) | exact lt_le (by omega)) (by first | rfl | rw [sh_sc (by omega)] | rw [sh_dy (by omega)]) (by first | assumption | ((repeat ((with_reducible apply m_up2_tr); · first | omega | (intro z; (try unfold scI at z); (try unfold dyI at z); (try unfold rwI at z); (try unfold waI at z); (try unfold leI at z); omega))); first | assumption | exact m_up2_eq | rfl)) ?_
  refine ms_bipush (v := nI 20) dX9_hasRoomBehind_4 (by decide) ?_
  refine n_icmp_lt (tgt := 11) dX9_hasRoomBehind_6 (by decide) (by omega) (by omega) (fun c6 => ?_) (fun c6 => ?_)
  · refine ms_aload_n dX9_hasRoomBehind_11 rfl ?_
    refine q_geti dX9_hasRoomBehind_12 fX9_29 (by rw [kd_9_4]; decide) (by first | decide | exact lt_sc (by omega) | exact lt_dy (by omega) | exact lt_rw (by omega) | exact lt_wa (by omega) | exact lt_le (by omega)) (by first | rfl | rw [sh_sc (by omega)] | rw [sh_dy (by omega)]) rfl ?_
    refine ms_if_eq (tgt := 35) dX9_hasRoomBehind_15 (by decide) (fun c15 => ?_) (fun c15 => ?_)
    · refine ms_iconst (v := nI 1) dX9_hasRoomBehind_35 (by decide) ?_
      refine ms_goto (tgt := 40) dX9_hasRoomBehind_36 (by decide) ?_
      refine ms_zret dX9_hasRoomBehind_40 rfl rfl (by first | exact Or.inl (by decide) | exact Or.inr (by decide) | assumption | exact bi_01 _) ⟨?_, ?_⟩
      · rw [decide_eq_true c6]; rfl
      · rfl
    · obtain ⟨q, h1, h2, h3, h4⟩ := hfr c15
      refine ms_aload_n dX9_hasRoomBehind_18 rfl ?_
      refine ms_aload_n dX9_hasRoomBehind_19 rfl ?_
      refine ms_aload_n dX9_hasRoomBehind_20 rfl ?_
      refine ms_iload_n dX9_hasRoomBehind_21 rfl ?_
      refine qRV1 dX9_hasRoomBehind_22 kX9_33 (by show _ < 178; first | decide | exact lt_sc (by omega) | exact lt_dy (by omega)) (by show (sh0 _).1 = _; first | rfl | rw [sh_sc (by omega)] | rw [sh_dy (by omega)]) (d := d - 1) (by show d - 1 + 1 ≤ d; omega) rfl (Nat.le_of_ble_eq_true rfl) (Nat.le_of_ble_eq_true rfl) (hsb _ (by omega)) rfl ?_
      refine qRV1 dX9_hasRoomBehind_25 kX9_37 (by show _ < 178; first | decide | exact lt_sc (by omega) | exact lt_dy (by omega)) (by show (sh0 _).1 = _; first | rfl | rw [sh_sc (by omega)] | rw [sh_dy (by omega)]) (d := d - 1) (by show d - 1 + 1 ≤ d; omega) rfl (Nat.le_of_ble_eq_true rfl) (Nat.le_of_ble_eq_true rfl) (k_numberAt hm2 ho hsp) rfl ?_
      refine qRV1 dX9_hasRoomBehind_28 kX9_40 (by show _ < 178; first | decide | exact lt_sc (by omega) | exact lt_dy (by omega)) (by show (sh0 _).1 = _; first | rfl | rw [sh_sc (by omega)] | rw [sh_dy (by omega)]) (d := d - 1) (by show d - 1 + 1 ≤ d; omega) rfl (Nat.le_of_ble_eq_true rfl) (Nat.le_of_ble_eq_true rfl) (k_lowestLetter (by omega) hm hm2 h1 h2 h3 h4) rfl ?_
      refine ms_iconst (v := -1) dX9_hasRoomBehind_31 (by decide) ?_
      refine ms_icmp_eq (tgt := 39) dX9_hasRoomBehind_32 (by decide) (fun c32 => ?_) (fun c32 => ?_)
      · have h0 := nI_pos (n := q) (by omega)
        rw [c32] at h0
        exact absurd (by decide) h0
      · refine ms_iconst (v := nI 1) dX9_hasRoomBehind_35 (by decide) ?_
        refine ms_goto (tgt := 40) dX9_hasRoomBehind_36 (by decide) ?_
        refine ms_zret dX9_hasRoomBehind_40 rfl rfl (by first | exact Or.inl (by decide) | exact Or.inr (by decide) | assumption | exact bi_01 _) ⟨?_, ?_⟩
        · rw [decide_eq_true c6]; rfl
        · rfl
  · refine ms_iconst (v := nI 0) dX9_hasRoomBehind_9 (by decide) ?_
    refine ms_zret dX9_hasRoomBehind_10 rfl rfl (by first | exact Or.inl (by decide) | exact Or.inr (by decide) | assumption | exact bi_01 _) ⟨?_, ?_⟩
    · rw [decide_eq_false (by omega)]; rfl
    · rfl
theorem k_labelOf0 {S : m_S} {I : m_I} {lg : Int64} {d m s i : Nat} (hd : 2 ≤ d) (hlo : I 1 4 = 0) (hm : I 1 3 = nI m) (hm2 : m ≤ 20) (hi : i < m) (hs : s < 20) (he : I 3 i = nI s) (hf : ∀ j, j < i → I 3 j ≠ nI s) : m_R S M_X9_labelOf d [.ref 1, .int (nI s)] (hh I lg) (some (.int (nI (100 * (i + 1))))) (hh I lg) := by
  refine ms_aload_n dX9_labelOf_0 rfl ?_
  refine q_geti dX9_labelOf_1 fX9_29 (by rw [kd_9_4]; decide) (by first | decide | exact lt_sc (by omega) | exact lt_dy (by omega) | exact lt_rw (by omega) | exact lt_wa (by omega) | exact lt_le (by omega)) (by first | rfl | rw [sh_sc (by omega)] | rw [sh_dy (by omega)]) rfl ?_
  refine ms_if_ne (tgt := 18) dX9_labelOf_4 (by decide) (fun c4 => ?_) (fun c4 => ?_)
  · exact absurd hlo c4
  · refine ms_bipush (v := nI 100) dX9_labelOf_7 (by decide) ?_
    refine ms_aload_n dX9_labelOf_9 rfl ?_
    refine ms_iload_n dX9_labelOf_10 rfl ?_
    refine qRV1 dX9_labelOf_11 kX9_61 (by show _ < 178; first | decide | exact lt_sc (by omega) | exact lt_dy (by omega)) (by show (sh0 _).1 = _; first | rfl | rw [sh_sc (by omega)] | rw [sh_dy (by omega)]) (d := d - 1) (by show d - 1 + 1 ≤ d; omega) rfl (Nat.le_of_ble_eq_true rfl) (Nat.le_of_ble_eq_true rfl) (k_X9_spotOf (by omega) hm hm2 hi hs he hf) rfl ?_
    refine ms_iconst (v := nI 1) dX9_labelOf_14 (by decide) ?_
    refine n_iadd dX9_labelOf_15 ?_
    refine n_imul dX9_labelOf_16 ?_
    refine ms_iret dX9_labelOf_17 rfl rfl ⟨?_, ?_⟩
    · rfl
    · rfl
theorem k_labelOf1 {S : m_S} {I : m_I} {lg : Int64} {d s : Nat} (hlo : ¬ I 1 4 = 0) (hs : s < 20) : m_R S M_X9_labelOf d [.ref 1, .int (nI s)] (hh I lg) (some (.int (nI 100 * I (scI s) 6 + I (scI s) 7))) (hh I lg) := by
  refine ms_aload_n dX9_labelOf_0 rfl ?_
  refine q_geti dX9_labelOf_1 fX9_29 (by rw [kd_9_4]; decide) (by first | decide | exact lt_sc (by omega) | exact lt_dy (by omega) | exact lt_rw (by omega) | exact lt_wa (by omega) | exact lt_le (by omega)) (by first | rfl | rw [sh_sc (by omega)] | rw [sh_dy (by omega)]) rfl ?_
  refine ms_if_ne (tgt := 18) dX9_labelOf_4 (by decide) (fun c4 => ?_) (fun c4 => ?_)
  · refine ms_bipush (v := nI 100) dX9_labelOf_18 (by decide) ?_
    refine ms_aload_n dX9_labelOf_20 rfl ?_
    refine q_getr dX9_labelOf_21 fX9_11 kd_9_0 (by first | decide | exact lt_sc (by omega) | exact lt_dy (by omega) | exact lt_rw (by omega) | exact lt_wa (by omega) | exact lt_le (by omega)) (by first | rfl | rw [sh_sc (by omega)] | rw [sh_dy (by omega)]) (by first | rfl | exact rf_wa (by omega) | exact rf_le (by omega) | exact rf_rw (by omega)) ?_
    refine ms_iload_n dX9_labelOf_24 rfl ?_
    refine q_aald dX9_labelOf_25 (by first | exact Or.inl ⟨rfl, by omega, rfl⟩ | exact Or.inr ⟨rfl, by omega, rfl⟩) ?_
    refine q_geti dX9_labelOf_26 fX9_55 (by rw [kd_8_6]; decide) (by first | decide | exact lt_sc (by omega) | exact lt_dy (by omega) | exact lt_rw (by omega) | exact lt_wa (by omega) | exact lt_le (by omega)) (by first | rfl | rw [sh_sc (by omega)] | rw [sh_dy (by omega)]) rfl ?_
    refine ms_imul dX9_labelOf_29 ?_
    refine ms_aload_n dX9_labelOf_30 rfl ?_
    refine q_getr dX9_labelOf_31 fX9_11 kd_9_0 (by first | decide | exact lt_sc (by omega) | exact lt_dy (by omega) | exact lt_rw (by omega) | exact lt_wa (by omega) | exact lt_le (by omega)) (by first | rfl | rw [sh_sc (by omega)] | rw [sh_dy (by omega)]) (by first | rfl | exact rf_wa (by omega) | exact rf_le (by omega) | exact rf_rw (by omega)) ?_
    refine ms_iload_n dX9_labelOf_34 rfl ?_
    refine q_aald dX9_labelOf_35 (by first | exact Or.inl ⟨rfl, by omega, rfl⟩ | exact Or.inr ⟨rfl, by omega, rfl⟩) ?_
    refine q_geti dX9_labelOf_36 fX9_58 (by rw [kd_8_7]; decide) (by first | decide | exact lt_sc (by omega) | exact lt_dy (by omega) | exact lt_rw (by omega) | exact lt_wa (by omega) | exact lt_le (by omega)) (by first | rfl | rw [sh_sc (by omega)] | rw [sh_dy (by omega)]) rfl ?_
    refine ms_iadd dX9_labelOf_39 ?_
    refine ms_iret dX9_labelOf_40 rfl rfl ⟨?_, ?_⟩
    · rfl
    · rfl
  · exact absurd c4 hlo
/-- the first k of the story have their places as labels -/
def klC (I : m_I) (o : Nat → Nat) : Nat → m_I
  | 0 => I
  | k + 1 => m_up2 (klC I o k) (scI (o k)) 6 (nI (k + 1))
theorem klC_ne {I : m_I} {o : Nat → Nat} {k a b : Nat} (h : b ≠ 6 ∨ a < 5) : klC I o k a b = I a b := by
  induction k with
  | zero => rfl
  | succ k ih =>
    refine (m_up2_ne ?_).trans ih
    unfold scI
    omega
theorem k_keepLabels {S : m_S} {I : m_I} {lg : Int64} {d m : Nat} {o : Nat → Nat} (hm : I 1 3 = nI m) (hm2 : m ≤ 20) (ho : ∀ k, k < m → I 3 k = nI (o k) ∧ o k < 20) : m_R S M_X9_keepLabels d [.ref 1] (hh I lg) none (hh (m_up2 (klC I o m) 1 4 (nI 1)) lg) := by
  have loop : ∀ (q k : Nat), k ≤ m → m - k < q → m_W S (M_X9_keepLabels, d, fun w9 g9 => w9 = none ∧ g9 = hh (m_up2 (klC I o m) 1 4 (nI 1)) lg, fun _ _ => False) 2 [some (.ref 1), some (.int (nI k))] [] (hh (klC I o k) lg) 0 0 := by
    intro q
    induction q with
    | zero => intro k  _ h; omega
    | succ q ih =>
      intro k  hk hq
      have hm' : klC I o k 1 3 = nI m := (klC_ne (Or.inl (by decide))).trans hm
      refine ms_iload_n dX9_keepLabels_2 rfl ?_
      refine ms_aload_n dX9_keepLabels_3 rfl ?_
      refine q_geti dX9_keepLabels_4 fX9_25 (by rw [kd_9_3]; decide) (by first | decide | exact lt_sc (by omega) | exact lt_dy (by omega) | exact lt_rw (by omega) | exact lt_wa (by omega) | exact lt_le (by omega)) (by first | rfl | rw [sh_sc (by omega)] | rw [sh_dy (by omega)]) (by first | assumption | ((repeat ((with_reducible apply m_up2_tr); · first | omega | (intro z; (try unfold scI at z); (try unfold dyI at z); (try unfold rwI at z); (try unfold waI at z); (try unfold leI at z); omega))); first | assumption | exact m_up2_eq | rfl)) ?_
      refine n_icmp_ge (tgt := 33) dX9_keepLabels_7 (by decide) (by omega) (by omega) (fun c7 => ?_) (fun c7 => ?_)
      · obtain rfl : k = m := by omega
        refine ms_aload_n dX9_keepLabels_33 rfl ?_
        refine ms_iconst (v := nI 1) dX9_keepLabels_34 (by decide) ?_
        refine q_putz dX9_keepLabels_35 fX9_29 pX9_9_4 kd_9_4 (by first | decide | exact lt_sc (by omega) | exact lt_dy (by omega) | exact lt_rw (by omega) | exact lt_wa (by omega) | exact lt_le (by omega)) (by first | rfl | rw [sh_sc (by omega)] | rw [sh_dy (by omega)]) (by first | exact Or.inl (by decide) | exact Or.inr (by decide) | assumption | exact bi_01 _) ?_
        refine ms_vret dX9_keepLabels_38 rfl rfl ⟨rfl, ?_⟩
        · rfl
      · obtain ⟨hk1, hk2⟩ := ho k (by omega)
        have hk1' : klC I o k 3 k = nI (o k) := (klC_ne (Or.inr (by decide))).trans hk1
        refine ms_aload_n dX9_keepLabels_10 rfl ?_
        refine q_getr dX9_keepLabels_11 fX9_11 kd_9_0 (by first | decide | exact lt_sc (by omega) | exact lt_dy (by omega) | exact lt_rw (by omega) | exact lt_wa (by omega) | exact lt_le (by omega)) (by first | rfl | rw [sh_sc (by omega)] | rw [sh_dy (by omega)]) (by first | rfl | exact rf_wa (by omega) | exact rf_le (by omega) | exact rf_rw (by omega)) ?_
        refine ms_aload_n dX9_keepLabels_14 rfl ?_
        refine q_getr dX9_keepLabels_15 fX9_17 kd_9_1 (by first | decide | exact lt_sc (by omega) | exact lt_dy (by omega) | exact lt_rw (by omega) | exact lt_wa (by omega) | exact lt_le (by omega)) (by first | rfl | rw [sh_sc (by omega)] | rw [sh_dy (by omega)]) (by first | rfl | exact rf_wa (by omega) | exact rf_le (by omega) | exact rf_rw (by omega)) ?_
        refine ms_iload_n dX9_keepLabels_18 rfl ?_
        refine q_iald dX9_keepLabels_19 (by first | decide | exact lt_sc (by omega) | exact lt_dy (by omega) | exact lt_rw (by omega) | exact lt_wa (by omega) | exact lt_le (by omega)) (by first | rfl | exact sh_rw (by omega) | exact sh_wa (by omega) | exact sh_le (by omega)) (by omega) (by decide) (by first | assumption | ((repeat ((with_reducible apply m_up2_tr); · first | omega | (intro z; (try unfold scI at z); (try unfold dyI at z); (try unfold rwI at z); (try unfold waI at z); (try unfold leI at z); omega))); first | assumption | exact m_up2_eq | rfl)) ?_
        refine q_aald dX9_keepLabels_20 (by first | exact Or.inl ⟨rfl, by omega, rfl⟩ | exact Or.inr ⟨rfl, by omega, rfl⟩) ?_
        refine ms_iload_n dX9_keepLabels_21 rfl ?_
        refine ms_iconst (v := nI 1) dX9_keepLabels_22 (by decide) ?_
        refine n_iadd dX9_keepLabels_23 ?_
        refine q_puti dX9_keepLabels_24 fX9_55 pX9_8_6 kd_8_6 (by first | decide | exact lt_sc (by omega) | exact lt_dy (by omega) | exact lt_rw (by omega) | exact lt_wa (by omega) | exact lt_le (by omega)) (by first | rfl | rw [sh_sc (by omega)] | rw [sh_dy (by omega)]) ?_
        refine n_iinc dX9_keepLabels_27 rfl ?_
        refine ms_goto (tgt := 2) dX9_keepLabels_30 (by decide) ?_
        exact ih (k + 1) (by omega) (by omega)
  refine ms_iconst (v := nI 0) dX9_keepLabels_0 (by decide) ?_
  refine ms_istore_n dX9_keepLabels_1 (Nat.le_of_ble_eq_true rfl) ?_
  exact loop (m + 1) 0 (by omega) (by omega)

