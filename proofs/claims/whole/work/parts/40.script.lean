/-! Script: places in the story -/
theorem m_up2_ne {f : m_I} {i k a b : Nat} {x : Int32} (h : ¬ (a = i ∧ b = k)) : m_up2 f i k x a b = f a b := if_neg h
theorem m_up2_tr {f : m_I} {i k a b : Nat} {x y : Int32} (h : ¬ (a = i ∧ b = k)) (e : f a b = y) : m_up2 f i k x a b = y := (if_neg h).trans e
theorem m_up2_eq {f : m_I} {i k : Nat} {x : Int32} : m_up2 f i k x i k = x := if_pos ⟨rfl, rfl⟩
theorem n_iinc {S : m_S} {B : m_B} {pc : Nat} {L : m_L} {st : List Value} {h : m_H} {rc rs i j : Nat} (hd : decode B.1.2.1 pc = .ok (.iinc i 1, 3)) (hv : L[i]? = some (some (.int (nI j)))) (kk : m_W S B (pc + 3) (L.set i (some (.int (nI (j + 1))))) st h rc rs) : m_W S B pc L st h rc rs := ms_iinc hd hv (nI_1 j) kk
theorem n_iincm {S : m_S} {B : m_B} {pc : Nat} {L : m_L} {st : List Value} {h : m_H} {rc rs i j : Nat} (hd : decode B.1.2.1 pc = .ok (.iinc i (-1), 3)) (hv : L[i]? = some (some (.int (nI (j + 1))))) (kk : m_W S B (pc + 3) (L.set i (some (.int (nI j)))) st h rc rs) : m_W S B pc L st h rc rs := ms_iinc hd hv (pk_m1 j) kk
theorem n_iadd {S : m_S} {B : m_B} {pc : Nat} {L : m_L} {st : List Value} {h : m_H} {rc rs a b : Nat} (hd : decode B.1.2.1 pc = .ok (.iadd, 1)) (kk : m_W S B (pc + 1) L (.int (nI (a + b)) :: st) h rc rs) : m_W S B pc L (.int (nI b) :: .int (nI a) :: st) h rc rs := ms_iadd hd (by rw [nI_add]; exact kk)
theorem n_isub {S : m_S} {B : m_B} {pc : Nat} {L : m_L} {st : List Value} {h : m_H} {rc rs a b : Nat} (hd : decode B.1.2.1 pc = .ok (.isub, 1)) (hl : b ≤ a) (kk : m_W S B (pc + 1) L (.int (nI (a - b)) :: st) h rc rs) : m_W S B pc L (.int (nI b) :: .int (nI a) :: st) h rc rs := ms_isub hd (by rw [pk_sub hl]; exact kk)
theorem n_imul {S : m_S} {B : m_B} {pc : Nat} {L : m_L} {st : List Value} {h : m_H} {rc rs a b : Nat} (hd : decode B.1.2.1 pc = .ok (.imul, 1)) (kk : m_W S B (pc + 1) L (.int (nI (a * b)) :: st) h rc rs) : m_W S B pc L (.int (nI b) :: .int (nI a) :: st) h rc rs := ms_imul hd (by rw [pk_mul]; exact kk)
theorem k_X9_spotOf {S : m_S} {I : m_I} {lg : Int64} {d : Nat} (hd : 1 ≤ d) {m s i : Nat} (hm : I 1 3 = nI m) (hm2 : m ≤ 20) (hi : i < m) (hs : s < 20) (he : I 3 i = nI s) (hf : ∀ j, j < i → I 3 j ≠ nI s) : m_R S M_X9_spotOf d [.ref 1, .int (nI s)] (hh I lg) (some (.int (nI i))) (hh I lg) := by
  have loop : ∀ n j, j ≤ i → i - j < n → m_W S (M_X9_spotOf, d, fun w g => w = some (.int (nI i)) ∧ g = hh I lg, fun _ _ => False) 2 [some (.ref 1), some (.int (nI s)), some (.int (nI j))] [] (hh I lg) 0 0 := by
    intro n
    induction n with
    | zero => intro j _ h; omega
    | succ n ih =>
      intro j hj hn
      refine ms_iload_n dX9_spotOf_2 rfl ?_
      refine ms_aload_n dX9_spotOf_3 rfl ?_
      refine q_geti dX9_spotOf_4 fX9_25 (by rw [kd_9_3]; decide) (by first | decide | exact lt_sc (by omega) | exact lt_dy (by omega) | exact lt_rw (by omega) | exact lt_wa (by omega) | exact lt_le (by omega)) (by first | rfl | rw [sh_sc (by omega)] | rw [sh_dy (by omega)]) (by first | assumption | ((repeat ((with_reducible apply m_up2_tr); · first | omega | (intro z; (try unfold scI at z); (try unfold dyI at z); (try unfold rwI at z); (try unfold waI at z); (try unfold leI at z); omega))); first | assumption | exact m_up2_eq | rfl)) ?_
      refine n_icmp_ge (tgt := 28) dX9_spotOf_7 (by decide) (by omega) (by omega) (fun c7 => ?_) (fun c7 => ?_)
      · omega
      · refine ms_aload_n dX9_spotOf_10 rfl ?_
        refine q_getr dX9_spotOf_11 fX9_17 kd_9_1 (by first | decide | exact lt_sc (by omega) | exact lt_dy (by omega) | exact lt_rw (by omega) | exact lt_wa (by omega) | exact lt_le (by omega)) (by first | rfl | rw [sh_sc (by omega)] | rw [sh_dy (by omega)]) (by first | rfl | exact rf_wa (by omega) | exact rf_le (by omega) | exact rf_rw (by omega)) ?_
        refine ms_iload_n dX9_spotOf_14 rfl ?_
        refine q_iald dX9_spotOf_15 (by first | decide | exact lt_sc (by omega) | exact lt_dy (by omega) | exact lt_rw (by omega) | exact lt_wa (by omega) | exact lt_le (by omega)) (by first | rfl | exact sh_rw (by omega) | exact sh_wa (by omega) | exact sh_le (by omega)) (by omega) (by decide) (by first | assumption | ((repeat ((with_reducible apply m_up2_tr); · first | omega | (intro z; (try unfold scI at z); (try unfold dyI at z); (try unfold rwI at z); (try unfold waI at z); (try unfold leI at z); omega))); first | assumption | exact m_up2_eq | rfl)) ?_
        refine ms_iload_n dX9_spotOf_16 rfl ?_
        refine ms_icmp_ne (tgt := 22) dX9_spotOf_17 (by decide) (fun c17 => ?_) (fun c17 => ?_)
        · have hne : j ≠ i := fun e => by rw [e] at c17; exact c17 he
          refine n_iinc dX9_spotOf_22 rfl ?_
          refine ms_goto (tgt := 2) dX9_spotOf_25 (by decide) ?_
          exact ih (j + 1) (by omega) (by omega)
        · have hji : j = i := by
            rcases Nat.lt_or_ge j i with q | q
            · exact absurd c17 (hf j q)
            · omega
          subst hji
          refine ms_iload_n dX9_spotOf_20 rfl ?_
          refine ms_iret dX9_spotOf_21 rfl rfl ⟨?_, ?_⟩
          · rfl
          · rfl
  refine ms_iconst (v := nI 0) dX9_spotOf_0 (by decide) ?_
  refine ms_istore_n dX9_spotOf_1 (Nat.le_of_ble_eq_true rfl) ?_
  exact loop (i + 1) 0 (by omega) (by omega)
/-! bits -/
theorem k_hasBit {S : m_S} {h : m_H} {d : Nat} (x : Int32) {b : Nat} (hb : b < 32) : m_R S M_X10_hasBit d [.int x, .int (nI b)] h (some (.int (bi (bt x b)))) h := by
  refine ms_iload_n dX10_hasBit_0 rfl ?_
  refine ms_iload_n dX10_hasBit_1 rfl ?_
  refine ms_ishr dX10_hasBit_2 ?_
  refine ms_iconst (v := nI 1) dX10_hasBit_3 (by decide) ?_
  refine ms_iand dX10_hasBit_4 ?_
  refine ms_if_eq (tgt := 12) dX10_hasBit_5 (by decide) (fun c5 => ?_) (fun c5 => ?_)
  · have hc : bt x b = false := bi_0.mp ((b_has x hb).symm.trans c5)
    refine ms_iconst (v := nI 0) dX10_hasBit_12 (by decide) ?_
    refine ms_zret dX10_hasBit_13 rfl rfl (by first | exact Or.inl (by decide) | exact Or.inr (by decide) | assumption | exact bi_01 _) ⟨?_, ?_⟩
    · rw [hc]; rfl
    · rfl
  · have hc : bt x b = true := bi_n0.mp (fun z => c5 ((b_has x hb).trans z))
    refine ms_iconst (v := nI 1) dX10_hasBit_8 (by decide) ?_
    refine ms_goto (tgt := 13) dX10_hasBit_9 (by decide) ?_
    refine ms_zret dX10_hasBit_13 rfl rfl (by first | exact Or.inl (by decide) | exact Or.inr (by decide) | assumption | exact bi_01 _) ⟨?_, ?_⟩
    · rw [hc]; rfl
    · rfl
theorem k_withBit {S : m_S} {h : m_H} {d : Nat} (x : Int32) {b : Nat} (c : Bool) : m_R S M_X10_withBit d [.int x, .int (nI b), .int (bi c)] h (some (.int (wb x b c))) h := by
  refine ms_iload_n dX10_withBit_0 rfl ?_
  refine ms_if_eq (tgt := 12) dX10_withBit_1 (by decide) (fun c1 => ?_) (fun c1 => ?_)
  · rw [bi_0.mp c1]
    refine ms_iload_n dX10_withBit_12 rfl ?_
    refine ms_iconst (v := nI 1) dX10_withBit_13 (by decide) ?_
    refine ms_iload_n dX10_withBit_14 rfl ?_
    refine ms_ishl dX10_withBit_15 ?_
    refine ms_iconst (v := -1) dX10_withBit_16 (by decide) ?_
    refine ms_ixor dX10_withBit_17 ?_
    refine ms_iand dX10_withBit_18 ?_
    refine ms_iret dX10_withBit_19 rfl rfl ⟨?_, ?_⟩
    · rfl
    · rfl
  · rw [bi_n0.mp c1]
    refine ms_iload_n dX10_withBit_4 rfl ?_
    refine ms_iconst (v := nI 1) dX10_withBit_5 (by decide) ?_
    refine ms_iload_n dX10_withBit_6 rfl ?_
    refine ms_ishl dX10_withBit_7 ?_
    refine ms_ior dX10_withBit_8 ?_
    refine ms_goto (tgt := 19) dX10_withBit_9 (by decide) ?_
    refine ms_iret dX10_withBit_19 rfl rfl ⟨?_, ?_⟩
    · rfl
    · rfl
theorem k_checkIndex {S : m_S} {h : m_H} {d : Nat} {x : Int32} {j n : Nat} (hx : x = nI j) (hj : j < n) (hn : n < 1000) : m_R S M_X10_checkIndex d [.int x, .int (nI n)] h none h := by
  subst hx
  refine ms_iload_n dX10_checkIndex_0 rfl ?_
  refine ms_if_lt (tgt := 9) dX10_checkIndex_1 (by decide) (fun c1 => ?_) (fun c1 => ?_)
  · exact absurd c1 (nI_pos (by omega))
  · refine ms_iload_n dX10_checkIndex_4 rfl ?_
    refine ms_iload_n dX10_checkIndex_5 rfl ?_
    refine n_icmp_lt (tgt := 20) dX10_checkIndex_6 (by decide) (by omega) (by omega) (fun c6 => ?_) (fun c6 => ?_)
    · refine ms_vret dX10_checkIndex_20 rfl rfl ⟨rfl, ?_⟩
      · rfl
    · omega
theorem k_checkIndexT {S : m_S} {h : m_H} {d : Nat} (hd : 6 ≤ d) {x : Int32} {n : Nat} (hx : ∀ j, j < n → x ≠ nI j) (hn : n < 1000) : m_T S M_X10_checkIndex d [.int x, .int (nI n)] h "java/lang/IndexOutOfBoundsException" := by
  refine ms_iload_n dX10_checkIndex_0 rfl ?_
  refine ms_if_lt (tgt := 9) dX10_checkIndex_1 (by decide) (fun c1 => ?_) (fun c1 => ?_)
  · exact ms_thrW dX10_checkIndex_9 dX10_checkIndex_12 dX10_checkIndex_13 dX10_checkIndex_16 dX10_checkIndex_19 thX10_checkIndex_9 rfl (by show 6 ≤ d; omega) (by decide) (by decide) (Nat.le_of_ble_eq_true rfl) ⟨rfl, rfl⟩
  · refine ms_iload_n dX10_checkIndex_4 rfl ?_
    refine ms_iload_n dX10_checkIndex_5 rfl ?_
    refine ms_icmp_lt (tgt := 20) dX10_checkIndex_6 (by decide) (fun c6 => ?_) (fun c6 => ?_)
    · rcases pk_ix x (n := n) (by omega) with q | q | ⟨j, hj, q⟩
      · exact absurd q c1
      · exact absurd q (fun z => Int32.lt_irrefl (Int32.lt_of_lt_of_le c6 z))
      · exact absurd q (hx j hj)
    · exact ms_thrW dX10_checkIndex_9 dX10_checkIndex_12 dX10_checkIndex_13 dX10_checkIndex_16 dX10_checkIndex_19 thX10_checkIndex_9 rfl (by show 6 ≤ d; omega) (by decide) (by decide) (Nat.le_of_ble_eq_true rfl) ⟨rfl, rfl⟩
theorem k_checkRange {S : m_S} {h : m_H} {d : Nat} {x a b : Int32} (h1 : a ≤ x) (h2 : x ≤ b) : m_R S M_X10_checkRange d [.int x, .int a, .int b] h none h := by
  refine ms_iload_n dX10_checkRange_0 rfl ?_
  refine ms_iload_n dX10_checkRange_1 rfl ?_
  refine ms_icmp_lt (tgt := 10) dX10_checkRange_2 (by decide) (fun c2 => ?_) (fun c2 => ?_)
  · exact absurd c2 (Int32.not_lt.mpr h1)
  · refine ms_iload_n dX10_checkRange_5 rfl ?_
    refine ms_iload_n dX10_checkRange_6 rfl ?_
    refine ms_icmp_le (tgt := 21) dX10_checkRange_7 (by decide) (fun c7 => ?_) (fun c7 => ?_)
    · refine ms_vret dX10_checkRange_21 rfl rfl ⟨rfl, ?_⟩
      · rfl
    · exact absurd h2 c7
theorem k_checkRangeT {S : m_S} {h : m_H} {d : Nat} (hd : 6 ≤ d) {x a b : Int32} (h1 : ¬ (a ≤ x ∧ x ≤ b)) : m_T S M_X10_checkRange d [.int x, .int a, .int b] h "java/lang/IllegalArgumentException" := by
  refine ms_iload_n dX10_checkRange_0 rfl ?_
  refine ms_iload_n dX10_checkRange_1 rfl ?_
  refine ms_icmp_lt (tgt := 10) dX10_checkRange_2 (by decide) (fun c2 => ?_) (fun c2 => ?_)
  · exact ms_thrW dX10_checkRange_10 dX10_checkRange_13 dX10_checkRange_14 dX10_checkRange_17 dX10_checkRange_20 thX10_checkRange_10 rfl (by show 6 ≤ d; omega) (by decide) (by decide) (Nat.le_of_ble_eq_true rfl) ⟨rfl, rfl⟩
  · refine ms_iload_n dX10_checkRange_5 rfl ?_
    refine ms_iload_n dX10_checkRange_6 rfl ?_
    refine ms_icmp_le (tgt := 21) dX10_checkRange_7 (by decide) (fun c7 => ?_) (fun c7 => ?_)
    · exact absurd ⟨Int32.not_lt.mp c2, c7⟩ h1
    · exact ms_thrW dX10_checkRange_10 dX10_checkRange_13 dX10_checkRange_14 dX10_checkRange_17 dX10_checkRange_20 thX10_checkRange_10 rfl (by show 6 ≤ d; omega) (by decide) (by decide) (Nat.le_of_ble_eq_true rfl) ⟨rfl, rfl⟩
theorem k_X9_spotBehind0 {S : m_S} {I : m_I} {lg : Int64} {d : Nat} : m_R S M_X9_spotBehind d [.ref 1, .int (-1)] (hh I lg) (some (.int (nI 0))) (hh I lg) := by
  refine ms_iload_n dX9_spotBehind_0 rfl ?_
  refine ms_iconst (v := -1) dX9_spotBehind_1 (by decide) ?_
  refine ms_icmp_ne (tgt := 9) dX9_spotBehind_2 (by decide) (fun c2 => ?_) (fun c2 => ?_)
  · exact absurd rfl c2
  · refine ms_iconst (v := nI 0) dX9_spotBehind_5 (by decide) ?_
    refine ms_goto (tgt := 16) dX9_spotBehind_6 (by decide) ?_
    refine ms_iret dX9_spotBehind_16 rfl rfl ⟨?_, ?_⟩
    · rfl
    · rfl
theorem k_X9_spotBehind {S : m_S} {I : m_I} {lg : Int64} {d : Nat} (hd : 2 ≤ d) {m s i : Nat} (hm : I 1 3 = nI m) (hm2 : m ≤ 20) (hi : i < m) (hs : s < 20) (he : I 3 i = nI s) (hf : ∀ j, j < i → I 3 j ≠ nI s) : m_R S M_X9_spotBehind d [.ref 1, .int (nI s)] (hh I lg) (some (.int (nI (i + 1)))) (hh I lg) := by
  refine ms_iload_n dX9_spotBehind_0 rfl ?_
  refine ms_iconst (v := -1) dX9_spotBehind_1 (by decide) ?_
  refine ms_icmp_ne (tgt := 9) dX9_spotBehind_2 (by decide) (fun c2 => ?_) (fun c2 => ?_)
  · refine ms_aload_n dX9_spotBehind_9 rfl ?_
    refine ms_iload_n dX9_spotBehind_10 rfl ?_
    refine qRV1 dX9_spotBehind_11 kX9_61 (by show _ < 178; first | decide | exact lt_sc (by omega) | exact lt_dy (by omega)) (by show (sh0 _).1 = _; first | rfl | rw [sh_sc (by omega)] | rw [sh_dy (by omega)]) (d := d - 1) (by show d - 1 + 1 ≤ d; omega) rfl (Nat.le_of_ble_eq_true rfl) (Nat.le_of_ble_eq_true rfl) (k_X9_spotOf (by omega) hm hm2 hi hs he hf) rfl ?_
    refine ms_iconst (v := nI 1) dX9_spotBehind_14 (by decide) ?_
    refine n_iadd dX9_spotBehind_15 ?_
    refine ms_iret dX9_spotBehind_16 rfl rfl ⟨?_, ?_⟩
    · rfl
    · rfl
  · have h0 := nI_pos (n := s) (by omega)
    rw [c2] at h0
    exact absurd (by decide) h0

