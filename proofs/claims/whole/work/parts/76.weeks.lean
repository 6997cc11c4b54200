-- NAME weeks
def wkB (x : Int32) (j : Nat) : Bool := !decide ((x >>> (nI (7 * j) &&& 31)) &&& nI 127 = 0)
theorem kr_weeks {S : m_S} {I : m_I} {lg : Int64} {d : Nat} {x : Int32} : m_R S M_X11_weeks d [.int x] (hh I lg) (some (.int (nI (fb_ct (wkB x) 5)))) (hh I lg) := by
  have loop : ∀ (q k : Nat), k ≤ 5 → 5 - k < q → m_W S (M_X11_weeks, d, fun w9 g9 => w9 = some (.int (nI (fb_ct (wkB x) 5))) ∧ g9 = hh (I) lg, fun _ _ => False) 4 [some (.int x), some (.int (nI (fb_ct (wkB x) k))), some (.int (nI (7 * k)))] [] (hh (I) lg) 0 0 := by
    intro q
    induction q with
    | zero => intro k  _ h; omega
    | succ q ih =>
      intro k  hk hq
      refine ms_iload_n dX11_weeks_4 rfl ?_
      refine ms_bipush (v := nI 30) dX11_weeks_5 (by decide) ?_
      refine n_icmp_ge (tgt := 33) dX11_weeks_7 (by decide) (by omega) (by omega) (fun c7 => ?_) (fun c7 => ?_)
      · obtain rfl : k = 5 := by omega
        refine ms_iload_n dX11_weeks_33 rfl ?_
        refine ms_iret dX11_weeks_34 rfl rfl ⟨?_, ?_⟩
        · rfl
        · rfl
      · have e : fb_ct (wkB x) (k + 1) = fb_ct (wkB x) k + if wkB x k then 1 else 0 := fb_ct_succ _ k
        have h9 := ih (k + 1) (by omega) (by omega)
        refine ms_iload_n dX11_weeks_10 rfl ?_
        refine ms_iload_n dX11_weeks_11 rfl ?_
        refine ms_iload_n dX11_weeks_12 rfl ?_
        refine ms_ishr dX11_weeks_13 ?_
        refine ms_bipush (v := nI 127) dX11_weeks_14 (by decide) ?_
        refine ms_iand dX11_weeks_16 ?_
        refine ms_if_eq (tgt := 24) dX11_weeks_17 (by decide) (fun c17 => ?_) (fun c17 => ?_)
        · have e2 : wkB x k = false := by unfold wkB; rw [decide_eq_true c17]; rfl
          rw [e, e2] at h9
          refine ms_iconst (v := nI 0) dX11_weeks_24 (by decide) ?_
          refine n_iadd dX11_weeks_25 ?_
          refine ms_istore_n dX11_weeks_26 (Nat.le_of_ble_eq_true rfl) ?_
          refine ms_iinc dX11_weeks_27 rfl (show _ + Int32.ofInt 7 = nI (_ + 7) from nI_add _ 7) ?_
          refine ms_goto (tgt := 4) dX11_weeks_30 (by decide) ?_
          exact h9
        · have e2 : wkB x k = true := by unfold wkB; rw [decide_eq_false c17]; rfl
          rw [e, e2] at h9
          refine ms_iconst (v := nI 1) dX11_weeks_20 (by decide) ?_
          refine ms_goto (tgt := 25) dX11_weeks_21 (by decide) ?_
          refine n_iadd dX11_weeks_25 ?_
          refine ms_istore_n dX11_weeks_26 (Nat.le_of_ble_eq_true rfl) ?_
          refine ms_iinc dX11_weeks_27 rfl (show _ + Int32.ofInt 7 = nI (_ + 7) from nI_add _ 7) ?_
          refine ms_goto (tgt := 4) dX11_weeks_30 (by decide) ?_
          exact h9
  refine ms_iconst (v := nI 0) dX11_weeks_0 (by decide) ?_
  refine ms_istore_n dX11_weeks_1 (Nat.le_of_ble_eq_true rfl) ?_
  refine ms_iconst (v := nI 0) dX11_weeks_2 (by decide) ?_
  refine ms_istore_n dX11_weeks_3 (Nat.le_of_ble_eq_true rfl) ?_
  exact loop 6 0 (by omega) (by omega)

