/-! Script: places in the story -/
theorem n_iinc {S : m_S} {B : m_B} {pc : Nat} {L : m_L} {st : List Value} {h : m_H} {rc rs i j : Nat} (hd : decode B.1.2.1 pc = .ok (.iinc i 1, 3)) (hv : L[i]? = some (some (.int (nI j)))) (kk : m_W S B (pc + 3) (L.set i (some (.int (nI (j + 1))))) st h rc rs) : m_W S B pc L st h rc rs := ms_iinc hd hv (nI_1 j) kk
theorem n_iincm {S : m_S} {B : m_B} {pc : Nat} {L : m_L} {st : List Value} {h : m_H} {rc rs i j : Nat} (hd : decode B.1.2.1 pc = .ok (.iinc i (-1), 3)) (hv : L[i]? = some (some (.int (nI (j + 1))))) (kk : m_W S B (pc + 3) (L.set i (some (.int (nI j)))) st h rc rs) : m_W S B pc L st h rc rs := ms_iinc hd hv (pk_m1 j) kk
theorem n_iadd {S : m_S} {B : m_B} {pc : Nat} {L : m_L} {st : List Value} {h : m_H} {rc rs a b : Nat} (hd : decode B.1.2.1 pc = .ok (.iadd, 1)) (kk : m_W S B (pc + 1) L (.int (nI (a + b)) :: st) h rc rs) : m_W S B pc L (.int (nI b) :: .int (nI a) :: st) h rc rs := ms_iadd hd (by rw [nI_add]; exact kk)
theorem n_isub {S : m_S} {B : m_B} {pc : Nat} {L : m_L} {st : List Value} {h : m_H} {rc rs a b : Nat} (hd : decode B.1.2.1 pc = .ok (.isub, 1)) (hl : b ≤ a) (kk : m_W S B (pc + 1) L (.int (nI (a - b)) :: st) h rc rs) : m_W S B pc L (.int (nI b) :: .int (nI a) :: st) h rc rs := ms_isub hd (by rw [pk_sub hl]; exact kk)
theorem n_imul {S : m_S} {B : m_B} {pc : Nat} {L : m_L} {st : List Value} {h : m_H} {rc rs a b : Nat} (hd : decode B.1.2.1 pc = .ok (.imul, 1)) (kk : m_W S B (pc + 1) L (.int (nI (a * b)) :: st) h rc rs) : m_W S B pc L (.int (nI b) :: .int (nI a) :: st) h rc rs := ms_imul hd (by rw [pk_mul]; exact kk)
theorem k_X9_spotOf {S : m_S} {I : m_I} {lg : Int64} {d : Nat} (hd : 1 ≤ d) {m s i : Nat} (hm : I 1 3 = nI m) (hm2 : m ≤ 20) (hi : i < m) (hs : s < 20) (he : I 3 i = nI s) (hf : ∀ j, j < i → I 3 j ≠ nI s) : m_R S M_X9_spotOf d [.ref 1, .int (nI s)] (hh I lg) (some (.int (nI i))) (hh I lg) := by
  have loop : ∀ n j, j ≤ i → i - j < n → m_W S (M_X9_spotOf, d, fun w g => w = some (.int (nI i)) ∧ g = hh I lg, fun _ _ => False) 2 [some (.ref 1), some (.int (nI s)), some (.int (nI j))] [] (hh I lg) 0 0 := by
    intro n
    induction n with
    | zero => intro j _ h; omega
    | succ n ih =>
      intro j hj hn
      refine ms_iload_n dX9_spotOf_2 rfl ?_
      refine ms_aload_n dX9_spotOf_3 rfl ?_
      refine q_geti dX9_spotOf_4 fX9_25 (by rw [kd_9_3]; decide) (by first | decide | exact lt_sc (by omega) | exact lt_dy (by omega) | exact lt_rw (by omega) | exact lt_wa (by omega) | exact lt_le (by omega)) (by first | rfl | rw [sh_sc (by omega)] | rw [sh_dy (by omega)]) (by first | assumption | rfl) ?_
      refine n_icmp_ge (tgt := 28) dX9_spotOf_7 (by decide) (by omega) (by omega) (fun c7 => ?_) (fun c7 => ?_)
      · omega
      · refine ms_aload_n dX9_spotOf_10 rfl ?_
        refine q_getr dX9_spotOf_11 fX9_17 kd_9_1 (by first | decide | exact lt_sc (by omega) | exact lt_dy (by omega) | exact lt_rw (by omega) | exact lt_wa (by omega) | exact lt_le (by omega)) (by first | rfl | rw [sh_sc (by omega)] | rw [sh_dy (by omega)]) (by first | rfl | exact rf_wa (by omega) | exact rf_le (by omega) | exact rf_rw (by omega)) ?_
        refine ms_iload_n dX9_spotOf_14 rfl ?_
        refine q_iald dX9_spotOf_15 (by first | decide | exact lt_sc (by omega) | exact lt_dy (by omega) | exact lt_rw (by omega) | exact lt_wa (by omega) | exact lt_le (by omega)) (by first | rfl | exact sh_rw (by omega) | exact sh_wa (by omega) | exact sh_le (by omega)) (by omega) (by decide) (by first | assumption | rfl) ?_
        refine ms_iload_n dX9_spotOf_16 rfl ?_
        refine ms_icmp_ne (tgt := 22) dX9_spotOf_17 (by decide) (fun c17 => ?_) (fun c17 => ?_)
        · have hne : j ≠ i := fun e => by rw [e] at c17; exact c17 he
          refine n_iinc dX9_spotOf_22 rfl ?_
          refine ms_goto (tgt := 2) dX9_spotOf_25 (by decide) ?_
          exact ih (j + 1) (by omega) (by omega)
        · have hji : j = i := by
            rcases Nat.lt_or_ge j i with q | q
            · exact absurd c17 (hf j q)
            · omega
          subst hji
          refine ms_iload_n dX9_spotOf_20 rfl ?_
          refine ms_iret dX9_spotOf_21 rfl rfl ⟨?_, ?_⟩
          · rfl
          · rfl
  refine ms_iconst (v := nI 0) dX9_spotOf_0 (by decide) ?_
  refine ms_istore_n dX9_spotOf_1 (Nat.le_of_ble_eq_true rfl) ?_
  exact loop (i + 1) 0 (by omega) (by omega)

