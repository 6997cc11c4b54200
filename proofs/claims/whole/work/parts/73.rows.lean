-- NAME rows
/-! the reference: rows of days -/
/-- the day t has n scenes, the scenes w -/
def Dr (I : m_I) (t n : Nat) (w : Nat → Nat) : Prop := t < 30 ∧ I 172 t = nI n ∧ n ≤ 8 ∧ ∀ j, j < n → I 171 (8 * t + j) = nI (w j) ∧ w j < 20
theorem kr_placeOn {S : m_S} {I : m_I} {lg : Int64} {d t n a : Nat} {w : Nat → Nat} (hD : Dr I t n w) (ha : a < n) (h2 : ∀ j, j < a → w j ≠ w a) : m_R S M_X11_placeOn d [.ref 143, .int (nI (w a)), .int (nI t)] (hh I lg) (some (.int (nI a))) (hh I lg) := by
  obtain ⟨ht, hn, hn8, hw⟩ := hD
  have loop : ∀ (q k : Nat), k ≤ a → a - k < q → m_W S (M_X11_placeOn, d, fun w9 g9 => w9 = some (.int (nI a)) ∧ g9 = hh (I) lg, fun _ _ => False) 2 [some (.ref 143), some (.int (nI (w a))), some (.int (nI t)), some (.int (nI k))] [] (hh (I) lg) 0 0 := by
    intro q
    induction q with
    | zero => intro k  _ h; omega
    | succ q ih =>
      intro k  hk hq
      obtain ⟨w1, w2⟩ := hw k (by omega)
      obtain ⟨w3, w4⟩ := hw a (by omega)
      refine ms_aload_n dX11_placeOn_2 rfl ?_
      refine q_getr dX11_placeOn_3 fX11_92 kd_11_35 (by first | decide | exact lt_sc (by omega) | exact lt_dy (by omega) | exact lt_rw (by omega) | exact lt_wa (by omega) | exact lt_le (by omega)) (by first | rfl | rw [sh_sc (by omega)] | rw [sh_dy (by omega)]) (by first | rfl | exact rf_wa (by omega) | exact rf_le (by omega) | exact rf_rw (by omega)) ?_
      refine ms_bipush (v := nI 8) dX11_placeOn_6 (by decide) ?_
      refine ms_iload_n dX11_placeOn_8 rfl ?_
      refine n_imul dX11_placeOn_9 ?_
      refine ms_iload_n dX11_placeOn_10 rfl ?_
      refine n_iadd dX11_placeOn_11 ?_
      refine q_iald dX11_placeOn_12 (by first | decide | exact lt_sc (by omega) | exact lt_dy (by omega) | exact lt_rw (by omega) | exact lt_wa (by omega) | exact lt_le (by omega)) (by first | rfl | exact sh_rw (by omega) | exact sh_wa (by omega) | exact sh_le (by omega)) (by omega) (by decide) w1 ?_
      refine ms_iload_n dX11_placeOn_13 rfl ?_
      refine n_icmp_eq (tgt := 23) dX11_placeOn_14 (by decide) (by omega) (by omega) (fun c14 => ?_) (fun c14 => ?_)
      · by_cases e : k = a
        · subst e
          refine ms_iload_n dX11_placeOn_23 rfl ?_
          refine ms_iret dX11_placeOn_24 rfl rfl ⟨?_, ?_⟩
          · rfl
          · rfl
        · exact absurd c14 (h2 k (by omega))
      · by_cases e : k = a
        · exact absurd (congrArg w e) c14
        · have h9 := ih (k + 1) (by omega) (by omega)
          refine n_iinc dX11_placeOn_17 rfl ?_
          refine ms_goto (tgt := 2) dX11_placeOn_20 (by decide) ?_
          exact h9
  refine ms_iconst (v := nI 0) dX11_placeOn_0 (by decide) ?_
  refine ms_istore_n dX11_placeOn_1 (Nat.le_of_ble_eq_true rfl) ?_
  exact loop (a + 1) 0 (by omega) (by omega)
def orB (f : Nat → Bool) : Nat → Bool
  | 0 => false
  | n + 1 => orB f n || f n
def woR (I : m_I) (w : Nat → Nat) (p n : Nat) : Bool := orB (fun j => bt (I 151 (w j)) p) n
theorem kr_works {S : m_S} {I : m_I} {lg : Int64} {d t n p : Nat} {w : Nat → Nat} (hd : 2 ≤ d) (hD : Dr I t n w) (hp : p < 8) : m_R S M_X11_works d [.ref 143, .int (nI p), .int (nI t)] (hh I lg) (some (.int (bi (woR I w p n)))) (hh I lg) := by
  obtain ⟨ht, hn, hn8, hw⟩ := hD
  have loop : ∀ (q k : Nat), k ≤ n → n - k < q → m_W S (M_X11_works, d, fun w9 g9 => w9 = some (.int (bi (woR I w p n))) ∧ g9 = hh (I) lg, fun _ _ => False) 5 [some (.ref 143), some (.int (nI p)), some (.int (nI t)), some (.int (bi (woR I w p k))), some (.int (nI k))] [] (hh (I) lg) 0 0 := by
    intro q
    induction q with
    | zero => intro k  _ h; omega
    | succ q ih =>
      intro k  hk hq
      refine ms_iload dX11_works_5 rfl ?_
      refine ms_aload_n dX11_works_7 rfl ?_
      refine q_getr dX11_works_8 fX11_95 kd_11_36 (by first | decide | exact lt_sc (by omega) | exact lt_dy (by omega) | exact lt_rw (by omega) | exact lt_wa (by omega) | exact lt_le (by omega)) (by first | rfl | rw [sh_sc (by omega)] | rw [sh_dy (by omega)]) (by first | rfl | exact rf_wa (by omega) | exact rf_le (by omega) | exact rf_rw (by omega)) ?_
      refine ms_iload_n dX11_works_11 rfl ?_
      refine q_iald dX11_works_12 (by first | decide | exact lt_sc (by omega) | exact lt_dy (by omega) | exact lt_rw (by omega) | exact lt_wa (by omega) | exact lt_le (by omega)) (by first | rfl | exact sh_rw (by omega) | exact sh_wa (by omega) | exact sh_le (by omega)) (by omega) (by decide) hn ?_
      refine n_icmp_ge (tgt := 56) dX11_works_13 (by decide) (by omega) (by omega) (fun c13 => ?_) (fun c13 => ?_)
      · obtain rfl : k = n := by omega
        refine ms_iload_n dX11_works_56 rfl ?_
        refine ms_zret dX11_works_57 rfl rfl (by first | exact Or.inl (by decide) | exact Or.inr (by decide) | assumption | exact bi_01 _) ⟨?_, ?_⟩
        · rfl
        · rfl
      · obtain ⟨w1, w2⟩ := hw k (by omega)
        have e : woR I w p (k + 1) = (woR I w p k || bt (I 151 (w k)) p) := rfl
        have h9 := ih (k + 1) (by omega) (by omega)
        refine ms_iload_n dX11_works_16 rfl ?_
        refine ms_if_ne (tgt := 44) dX11_works_17 (by decide) (fun c17 => ?_) (fun c17 => ?_)
        · rw [e, bi_n0.mp c17, Bool.true_or] at h9
          refine ms_iconst (v := nI 1) dX11_works_44 (by decide) ?_
          refine ms_goto (tgt := 49) dX11_works_45 (by decide) ?_
          refine ms_istore_n dX11_works_49 (Nat.le_of_ble_eq_true rfl) ?_
          refine n_iinc dX11_works_50 rfl ?_
          refine ms_goto (tgt := 5) dX11_works_53 (by decide) ?_
          exact h9
        · refine ms_aload_n dX11_works_20 rfl ?_
          refine q_getr dX11_works_21 fX11_32 kd_11_11 (by first | decide | exact lt_sc (by omega) | exact lt_dy (by omega) | exact lt_rw (by omega) | exact lt_wa (by omega) | exact lt_le (by omega)) (by first | rfl | rw [sh_sc (by omega)] | rw [sh_dy (by omega)]) (by first | rfl | exact rf_wa (by omega) | exact rf_le (by omega) | exact rf_rw (by omega)) ?_
          refine ms_aload_n dX11_works_24 rfl ?_
          refine q_getr dX11_works_25 fX11_92 kd_11_35 (by first | decide | exact lt_sc (by omega) | exact lt_dy (by omega) | exact lt_rw (by omega) | exact lt_wa (by omega) | exact lt_le (by omega)) (by first | rfl | rw [sh_sc (by omega)] | rw [sh_dy (by omega)]) (by first | rfl | exact rf_wa (by omega) | exact rf_le (by omega) | exact rf_rw (by omega)) ?_
          refine ms_bipush (v := nI 8) dX11_works_28 (by decide) ?_
          refine ms_iload_n dX11_works_30 rfl ?_
          refine n_imul dX11_works_31 ?_
          refine ms_iload dX11_works_32 rfl ?_
          refine n_iadd dX11_works_34 ?_
          refine q_iald dX11_works_35 (by first | decide | exact lt_sc (by omega) | exact lt_dy (by omega) | exact lt_rw (by omega) | exact lt_wa (by omega) | exact lt_le (by omega)) (by first | rfl | exact sh_rw (by omega) | exact sh_wa (by omega) | exact sh_le (by omega)) (by omega) (by decide) w1 ?_
          refine q_iald dX11_works_36 (by first | decide | exact lt_sc (by omega) | exact lt_dy (by omega) | exact lt_rw (by omega) | exact lt_wa (by omega) | exact lt_le (by omega)) (by first | rfl | exact sh_rw (by omega) | exact sh_wa (by omega) | exact sh_le (by omega)) (by omega) (by decide) rfl ?_
          refine ms_iload_n dX11_works_37 rfl ?_
          refine qRS2 dX11_works_38 kX11_158 (d := d - 1) (by show d - 1 + 1 ≤ d; omega) rfl rfl (Nat.le_of_ble_eq_true rfl) (Nat.le_of_ble_eq_true rfl) (kr_has (by omega)) rfl ?_
          refine ms_if_eq (tgt := 48) dX11_works_41 (by decide) (fun c41 => ?_) (fun c41 => ?_)
          · rw [e, bi_0.mp c17, bi_0.mp c41] at h9
            refine ms_iconst (v := nI 0) dX11_works_48 (by decide) ?_
            refine ms_istore_n dX11_works_49 (Nat.le_of_ble_eq_true rfl) ?_
            refine n_iinc dX11_works_50 rfl ?_
            refine ms_goto (tgt := 5) dX11_works_53 (by decide) ?_
            exact h9
          · rw [e, bi_n0.mp c41, Bool.or_true] at h9
            refine ms_iconst (v := nI 1) dX11_works_44 (by decide) ?_
            refine ms_goto (tgt := 49) dX11_works_45 (by decide) ?_
            refine ms_istore_n dX11_works_49 (Nat.le_of_ble_eq_true rfl) ?_
            refine n_iinc dX11_works_50 rfl ?_
            refine ms_goto (tgt := 5) dX11_works_53 (by decide) ?_
            exact h9
  refine ms_iconst (v := nI 0) dX11_works_0 (by decide) ?_
  refine ms_istore_n dX11_works_1 (Nat.le_of_ble_eq_true rfl) ?_
  refine ms_iconst (v := nI 0) dX11_works_2 (by decide) ?_
  refine ms_istore dX11_works_3 (Nat.le_of_ble_eq_true rfl) ?_
  exact loop (n + 1) 0 (by omega) (by omega)

