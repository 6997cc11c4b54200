-- NAME days
/-! the reference: the days of a person, weeks -/
def dsR (f : Nat → Bool) : Nat → Int32
  | 0 => nI 0
  | k + 1 => dsR f k ||| (if f k then nI 1 <<< (nI k &&& 31) else nI 0)
theorem kr_days {S : m_S} {I : m_I} {lg : Int64} {d p : Nat} {n : Nat → Nat} {w : Nat → Nat → Nat} (hd : 3 ≤ d) (hD : ∀ t, t < 30 → Dr I t (n t) (w t)) (hp : p < 8) : m_R S M_X11_days d [.ref 143, .int (nI p)] (hh I lg) (some (.int (dsR (fun t => woR I (w t) p (n t)) 30))) (hh I lg) := by
  have loop : ∀ (q k : Nat), k ≤ 30 → 30 - k < q → m_W S (M_X11_days, d, fun w9 g9 => w9 = some (.int (dsR (fun t => woR I (w t) p (n t)) 30)) ∧ g9 = hh (I) lg, fun _ _ => False) 4 [some (.ref 143), some (.int (nI p)), some (.int (dsR (fun t => woR I (w t) p (n t)) k)), some (.int (nI k))] [] (hh (I) lg) 0 0 := by
    intro q
    induction q with
    | zero => intro k  _ h; omega
    | succ q ih =>
      intro k  hk hq
      refine ms_iload_n dX11_days_4 rfl ?_
      refine ms_bipush (v := nI 30) dX11_days_5 (by decide) ?_
      refine n_icmp_ge (tgt := 35) dX11_days_7 (by decide) (by omega) (by omega) (fun c7 => ?_) (fun c7 => ?_)
      · obtain rfl : k = 30 := by omega
        refine ms_iload_n dX11_days_35 rfl ?_
        refine ms_iret dX11_days_36 rfl rfl ⟨?_, ?_⟩
        · rfl
        · rfl
      · have e : dsR (fun t => woR I (w t) p (n t)) (k + 1) = dsR (fun t => woR I (w t) p (n t)) k ||| (if woR I (w k) p (n k) then nI 1 <<< (nI k &&& 31) else nI 0) := rfl
        have h9 := ih (k + 1) (by omega) (by omega)
        refine ms_iload_n dX11_days_10 rfl ?_
        refine ms_aload_n dX11_days_11 rfl ?_
        refine ms_iload_n dX11_days_12 rfl ?_
        refine ms_iload_n dX11_days_13 rfl ?_
        refine qRV2 dX11_days_14 kX11_220 (by show _ < 178; first | decide | exact lt_sc (by omega) | exact lt_dy (by omega)) (by show (sh0 _).1 = _; first | rfl | rw [sh_sc (by omega)] | rw [sh_dy (by omega)]) (d := d - 1) (by show d - 1 + 1 ≤ d; omega) rfl rfl (Nat.le_of_ble_eq_true rfl) (Nat.le_of_ble_eq_true rfl) (kr_works (by omega) (hD k (by omega)) hp) rfl ?_
        refine ms_if_eq (tgt := 26) dX11_days_17 (by decide) (fun c17 => ?_) (fun c17 => ?_)
        · rw [e, bi_0.mp c17] at h9
          refine ms_iconst (v := nI 0) dX11_days_26 (by decide) ?_
          refine ms_ior dX11_days_27 ?_
          refine ms_istore_n dX11_days_28 (Nat.le_of_ble_eq_true rfl) ?_
          refine n_iinc dX11_days_29 rfl ?_
          refine ms_goto (tgt := 4) dX11_days_32 (by decide) ?_
          exact h9
        · rw [e, bi_n0.mp c17] at h9
          refine ms_iconst (v := nI 1) dX11_days_20 (by decide) ?_
          refine ms_iload_n dX11_days_21 rfl ?_
          refine ms_ishl dX11_days_22 ?_
          refine ms_goto (tgt := 27) dX11_days_23 (by decide) ?_
          refine ms_ior dX11_days_27 ?_
          refine ms_istore_n dX11_days_28 (Nat.le_of_ble_eq_true rfl) ?_
          refine n_iinc dX11_days_29 rfl ?_
          refine ms_goto (tgt := 4) dX11_days_32 (by decide) ?_
          exact h9
  refine ms_iconst (v := nI 0) dX11_days_0 (by decide) ?_
  refine ms_istore_n dX11_days_1 (Nat.le_of_ble_eq_true rfl) ?_
  refine ms_iconst (v := nI 0) dX11_days_2 (by decide) ?_
  refine ms_istore_n dX11_days_3 (Nat.le_of_ble_eq_true rfl) ?_
  exact loop 31 0 (by omega) (by omega)
/-- a bit of the days -/
theorem dsR_bt (f : Nat → Bool) : ∀ k, k ≤ 30 → ∀ i, i < 32 → bt (dsR f k) i = (decide (i < k) && f i) := by
  intro k
  induction k with
  | zero =>
    intro _ i hi
    rw [decide_eq_false (Nat.not_lt_zero i)]
    exact b_0 i
  | succ k ih =>
    intro hk i hi
    show bt (dsR f k ||| (if f k then nI 1 <<< (nI k &&& 31) else nI 0)) i = _
    rw [b_or, ih (by omega) i hi]
    have e2 : bt (if f k then nI 1 <<< (nI k &&& 31) else nI 0) i = (f k && decide (i = k)) := by
      cases f k
      · exact b_0 i
      · rw [Bool.true_and]
        exact b_one (by omega) hi
    rw [e2]
    by_cases e : i = k
    · rw [e, decide_eq_false (Nat.lt_irrefl k), decide_eq_true rfl, decide_eq_true (Nat.lt_succ_self k)]
      simp
    · rw [decide_eq_false e]
      by_cases e3 : i < k
      · rw [decide_eq_true e3, decide_eq_true (show i < k + 1 by omega)]
        simp
      · rw [decide_eq_false e3, decide_eq_false (show ¬ i < k + 1 by omega)]
        simp

