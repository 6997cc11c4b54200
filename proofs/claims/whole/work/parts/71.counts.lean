-- NAME counts
/-! the reference: counts, states, places -/
theorem kr_size {S : m_S} {I : m_I} {lg : Int64} {d : Nat} {x : Int32} : m_R S M_X11_size d [.int x] (hh I lg) (some (.int (nI (pc x 30)))) (hh I lg) := by
  have loop : ∀ (q k : Nat), k ≤ 30 → 30 - k < q → m_W S (M_X11_size, d, fun w9 g9 => w9 = some (.int (nI (pc x 30))) ∧ g9 = hh (I) lg, fun _ _ => False) 4 [some (.int x), some (.int (nI (pc x k))), some (.int (nI k))] [] (hh (I) lg) 0 0 := by
    intro q
    induction q with
    | zero => intro k  _ h; omega
    | succ q ih =>
      intro k  hk hq
      refine ms_iload_n dX11_size_4 rfl ?_
      refine ms_bipush (v := nI 30) dX11_size_5 (by decide) ?_
      refine n_icmp_ge (tgt := 24) dX11_size_7 (by decide) (by omega) (by omega) (fun c7 => ?_) (fun c7 => ?_)
      · obtain rfl : k = 30 := by omega
        refine ms_iload_n dX11_size_24 rfl ?_
        refine ms_iret dX11_size_25 rfl rfl ⟨?_, ?_⟩
        · rfl
        · rfl
      · have h9 := ih (k + 1) (by omega) (by omega)
        have e : nI (pc x k) + bi (bt x k) = nI (pc x (k + 1)) := by
          have e1 : pc x (k + 1) = pc x k + if bt x k then 1 else 0 := fb_ct_succ _ k
          rw [e1]
          cases bt x k
          · exact nI_add _ 0
          · exact nI_add _ 1
        refine ms_iload_n dX11_size_10 rfl ?_
        refine ms_iload_n dX11_size_11 rfl ?_
        refine ms_iload_n dX11_size_12 rfl ?_
        refine ms_ishr dX11_size_13 ?_
        refine ms_iconst (v := nI 1) dX11_size_14 (by decide) ?_
        refine ms_iand dX11_size_15 ?_
        rw [b_has x (by omega)]
        refine ms_iadd dX11_size_16 ?_
        refine ms_istore_n dX11_size_17 (Nat.le_of_ble_eq_true rfl) ?_
        refine n_iinc dX11_size_18 rfl ?_
        refine ms_goto (tgt := 4) dX11_size_21 (by decide) ?_
        rw [e]
        exact h9
  refine ms_iconst (v := nI 0) dX11_size_0 (by decide) ?_
  refine ms_istore_n dX11_size_1 (Nat.le_of_ble_eq_true rfl) ?_
  refine ms_iconst (v := nI 0) dX11_size_2 (by decide) ?_
  refine ms_istore_n dX11_size_3 (Nat.le_of_ble_eq_true rfl) ?_
  exact loop 31 0 (by omega) (by omega)
def hoR (x : Int32) : Int32 := if x ≤ 0 then nI 0 else (x + nI 59) / nI 60
theorem kr_hours {S : m_S} {h : m_H} {d : Nat} {x : Int32} : m_R S M_X11_hours d [.int x] h (some (.int (hoR x))) h := by
  refine ms_iload_n dX11_hours_0 rfl ?_
  refine ms_if_le (tgt := 14) dX11_hours_1 (by decide) (fun c1 => ?_) (fun c1 => ?_)
  · refine ms_iconst (v := nI 0) dX11_hours_14 (by decide) ?_
    refine ms_iret dX11_hours_15 rfl rfl ⟨?_, ?_⟩
    · rw [show hoR x = nI 0 from if_pos c1]
    · rfl
  · refine ms_iload_n dX11_hours_4 rfl ?_
    refine ms_bipush (v := nI 59) dX11_hours_5 (by decide) ?_
    refine ms_iadd dX11_hours_7 ?_
    refine ms_bipush (v := nI 60) dX11_hours_8 (by decide) ?_
    refine ms_idiv dX11_hours_10 (by first | decide | assumption) ?_
    refine ms_goto (tgt := 15) dX11_hours_11 (by decide) ?_
    refine ms_iret dX11_hours_15 rfl rfl ⟨?_, ?_⟩
    · rw [show hoR x = (x + nI 59) / nI 60 from if_neg c1]
    · rfl

