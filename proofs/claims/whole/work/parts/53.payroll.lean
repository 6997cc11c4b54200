-- NAME payroll
/-! what is paid -/
def bhF (x : Int32) : Int32 := if 0 < x then (x + nI 59) / nI 60 else nI 0
theorem k_begunHours {S : m_S} {h : m_H} {d : Nat} (x : Int32) : m_R S M_X6_begunHours d [.int x] h (some (.int (bhF x))) h := by
  refine ms_iload_n dX6_begunHours_0 rfl ?_
  refine ms_if_gt (tgt := 8) dX6_begunHours_1 (by decide) (fun c1 => ?_) (fun c1 => ?_)
  · refine ms_iload_n dX6_begunHours_8 rfl ?_
    refine ms_bipush (v := nI 59) dX6_begunHours_9 (by decide) ?_
    refine ms_iadd dX6_begunHours_11 ?_
    refine ms_bipush (v := nI 60) dX6_begunHours_12 (by decide) ?_
    refine ms_idiv dX6_begunHours_14 (by first | decide | assumption) ?_
    refine ms_iret dX6_begunHours_15 rfl rfl ⟨?_, ?_⟩
    · rw [show bhF x = (x + nI 59) / nI 60 from if_pos c1]
    · rfl
  · refine ms_iconst (v := nI 0) dX6_begunHours_4 (by decide) ?_
    refine ms_goto (tgt := 15) dX6_begunHours_5 (by decide) ?_
    refine ms_iret dX6_begunHours_15 rfl rfl ⟨?_, ?_⟩
    · rw [show bhF x = nI 0 from if_neg c1]
    · rfl
def duF (dl dy la : Int32) : Int32 := if la = -1 ∨ dl = 0 then nI 1 else if dl = nI 1 then (if la / nI 7 = dy / nI 7 then nI 0 else nI 1) else (if dy - la ≤ nI 10 then dy - la else nI 1)
theorem k_dueTimes {S : m_S} {h : m_H} {d : Nat} (x y z : Int32) : m_R S M_X6_dueTimes d [.int x, .int y, .int z] h (some (.int (duF x y z))) h := by
  refine ms_iload_n dX6_dueTimes_0 rfl ?_
  refine ms_iconst (v := -1) dX6_dueTimes_1 (by decide) ?_
  refine ms_icmp_eq (tgt := 9) dX6_dueTimes_2 (by decide) (fun c2 => ?_) (fun c2 => ?_)
  · refine ms_iconst (v := nI 1) dX6_dueTimes_9 (by decide) ?_
    refine ms_iret dX6_dueTimes_10 rfl rfl ⟨?_, ?_⟩
    · rw [show duF x y z = nI 1 from if_pos (Or.inl c2)]
    · rfl
  · refine ms_iload_n dX6_dueTimes_5 rfl ?_
    refine ms_if_ne (tgt := 11) dX6_dueTimes_6 (by decide) (fun c6 => ?_) (fun c6 => ?_)
    · have e : ¬ (z = -1 ∨ x = 0) := fun q => q.elim c2 c6
      have e1 : duF x y z = if x = nI 1 then (if z / nI 7 = y / nI 7 then nI 0 else nI 1) else (if y - z ≤ nI 10 then y - z else nI 1) := if_neg e
      refine ms_iload_n dX6_dueTimes_11 rfl ?_
      refine ms_iconst (v := nI 1) dX6_dueTimes_12 (by decide) ?_
      refine ms_icmp_ne (tgt := 33) dX6_dueTimes_13 (by decide) (fun c13 => ?_) (fun c13 => ?_)
      · rw [if_neg c13] at e1
        refine ms_iload_n dX6_dueTimes_33 rfl ?_
        refine ms_iload_n dX6_dueTimes_34 rfl ?_
        refine ms_isub dX6_dueTimes_35 ?_
        refine ms_bipush (v := nI 10) dX6_dueTimes_36 (by decide) ?_
        refine ms_icmp_le (tgt := 45) dX6_dueTimes_38 (by decide) (fun c38 => ?_) (fun c38 => ?_)
        · refine ms_iload_n dX6_dueTimes_45 rfl ?_
          refine ms_iload_n dX6_dueTimes_46 rfl ?_
          refine ms_isub dX6_dueTimes_47 ?_
          refine ms_iret dX6_dueTimes_48 rfl rfl ⟨?_, ?_⟩
          · rw [e1]; first | (rw [if_pos c38]; done) | (rw [if_neg c38]; done)
          · rfl
        · refine ms_iconst (v := nI 1) dX6_dueTimes_41 (by decide) ?_
          refine ms_goto (tgt := 48) dX6_dueTimes_42 (by decide) ?_
          refine ms_iret dX6_dueTimes_48 rfl rfl ⟨?_, ?_⟩
          · rw [e1]; first | (rw [if_pos c38]; done) | (rw [if_neg c38]; done)
          · rfl
      · rw [if_pos c13] at e1
        refine ms_iload_n dX6_dueTimes_16 rfl ?_
        refine ms_bipush (v := nI 7) dX6_dueTimes_17 (by decide) ?_
        refine ms_idiv dX6_dueTimes_19 (by first | decide | assumption) ?_
        refine ms_iload_n dX6_dueTimes_20 rfl ?_
        refine ms_bipush (v := nI 7) dX6_dueTimes_21 (by decide) ?_
        refine ms_idiv dX6_dueTimes_23 (by first | decide | assumption) ?_
        refine ms_icmp_ne (tgt := 31) dX6_dueTimes_24 (by decide) (fun c24 => ?_) (fun c24 => ?_)
        · refine ms_iconst (v := nI 1) dX6_dueTimes_31 (by decide) ?_
          refine ms_iret dX6_dueTimes_32 rfl rfl ⟨?_, ?_⟩
          · rw [e1]; first | (rw [if_pos c24]; done) | (rw [if_neg c24]; done)
          · rfl
        · refine ms_iconst (v := nI 0) dX6_dueTimes_27 (by decide) ?_
          refine ms_goto (tgt := 32) dX6_dueTimes_28 (by decide) ?_
          refine ms_iret dX6_dueTimes_32 rfl rfl ⟨?_, ?_⟩
          · rw [e1]; first | (rw [if_pos c24]; done) | (rw [if_neg c24]; done)
          · rfl
    · refine ms_iconst (v := nI 1) dX6_dueTimes_9 (by decide) ?_
      refine ms_iret dX6_dueTimes_10 rfl rfl ⟨?_, ?_⟩
      · rw [show duF x y z = nI 1 from if_pos (Or.inr c6)]
      · rfl
def spG (pl : Nat → Nat) : Nat → Int32
  | 0 => nI 0
  | k + 1 => spG pl k ||| (nI 1 <<< (nI (pl k) &&& 31))
def cmG (pl : Nat → Nat) (co : Nat → Int32) : Nat → Int32
  | 0 => nI 0
  | k + 1 => if bt (spG pl k) (pl k) then cmG pl co k else cmG pl co k + co (pl k)
theorem k_costOfPlaces {S : m_S} {I : m_I} {lg : Int64} {d t n : Nat} {w pl : Nat → Nat} (hd : 2 ≤ d) (hD : DyC I t n w pl) : m_R S M_X6_costOfPlaces d [.ref 142, .ref (dyI t)] (hh I lg) (some (.int (cmG pl (fun p => I 70 p) n))) (hh I lg) := by
  obtain ⟨ht, hn, hn2, hw, hp⟩ := hD
  have loop : ∀ (q k : Nat) (d5 : Option Value), k ≤ n → n - k < q → m_W S (M_X6_costOfPlaces, d, fun w9 g => w9 = some (.int (cmG pl (fun p => I 70 p) n)) ∧ g = hh I lg, fun _ _ => False) 7 [some (.ref 142), some (.ref (dyI t)), some (.int (spG pl k)), some (.int (cmG pl (fun p => I 70 p) k)), some (.int (nI k)), d5] [] (hh I lg) 0 0 := by
    intro q
    induction q with
    | zero => intro k _ _ h; omega
    | succ q ih =>
      intro k d5 hk hq
      refine ms_iload dX6_costOfPlaces_7 rfl ?_
      refine ms_aload_n dX6_costOfPlaces_9 rfl ?_
      refine q_geti dX6_costOfPlaces_10 fX6_78 (by rw [kd_3_6]; decide) (by first | decide | exact lt_sc (by omega) | exact lt_dy (by omega) | exact lt_rw (by omega) | exact lt_wa (by omega) | exact lt_le (by omega)) (by first | rfl | rw [sh_sc (by omega)] | rw [sh_dy (by omega)]) (by first | assumption | ((repeat ((with_reducible apply m_up2_tr); · first | omega | (intro z; (try unfold scI at z); (try unfold dyI at z); (try unfold rwI at z); (try unfold waI at z); (try unfold leI at z); omega))); first | assumption | exact m_up2_eq | rfl)) ?_
      refine n_icmp_ge (tgt := 71) dX6_costOfPlaces_13 (by decide) (by omega) (by omega) (fun c13 => ?_) (fun c13 => ?_)
      · obtain rfl : k = n := by omega
        refine ms_iload_n dX6_costOfPlaces_71 rfl ?_
        refine ms_iret dX6_costOfPlaces_72 rfl rfl ⟨?_, ?_⟩
        · rfl
        · rfl
      · obtain ⟨hw1, hw2⟩ := hw k (by omega)
        obtain ⟨hp1, hp2⟩ := hp k (by omega)
        have h9 := fun d5 => ih (k + 1) d5 (by omega) (by omega)
        refine ms_aload_n dX6_costOfPlaces_16 rfl ?_
        refine q_getr dX6_costOfPlaces_17 fX6_9 kd_6_0 (by first | decide | exact lt_sc (by omega) | exact lt_dy (by omega) | exact lt_rw (by omega) | exact lt_wa (by omega) | exact lt_le (by omega)) (by first | rfl | rw [sh_sc (by omega)] | rw [sh_dy (by omega)]) (by first | rfl | exact rf_wa (by omega) | exact rf_le (by omega) | exact rf_rw (by omega)) ?_
        refine q_getr dX6_costOfPlaces_20 fX6_81 kd_9_0 (by first | decide | exact lt_sc (by omega) | exact lt_dy (by omega) | exact lt_rw (by omega) | exact lt_wa (by omega) | exact lt_le (by omega)) (by first | rfl | rw [sh_sc (by omega)] | rw [sh_dy (by omega)]) (by first | rfl | exact rf_wa (by omega) | exact rf_le (by omega) | exact rf_rw (by omega)) ?_
        refine ms_aload_n dX6_costOfPlaces_23 rfl ?_
        refine q_getr dX6_costOfPlaces_24 fX6_87 kd_3_5 (by first | decide | exact lt_sc (by omega) | exact lt_dy (by omega) | exact lt_rw (by omega) | exact lt_wa (by omega) | exact lt_le (by omega)) (by first | rfl | rw [sh_sc (by omega)] | rw [sh_dy (by omega)]) (by first | rfl | exact rf_wa (by omega) | exact rf_le (by omega) | exact rf_rw (by omega)) ?_
        refine ms_iload dX6_costOfPlaces_27 rfl ?_
        refine q_iald dX6_costOfPlaces_29 (by first | decide | exact lt_sc (by omega) | exact lt_dy (by omega) | exact lt_rw (by omega) | exact lt_wa (by omega) | exact lt_le (by omega)) (by first | rfl | exact sh_rw (by omega) | exact sh_wa (by omega) | exact sh_le (by omega)) (by omega) (by decide) (by first | assumption | ((repeat ((with_reducible apply m_up2_tr); · first | omega | (intro z; (try unfold scI at z); (try unfold dyI at z); (try unfold rwI at z); (try unfold waI at z); (try unfold leI at z); omega))); first | assumption | exact m_up2_eq | rfl)) ?_
        refine q_aald dX6_costOfPlaces_30 (by first | exact Or.inl ⟨rfl, by omega, rfl⟩ | exact Or.inr ⟨rfl, by omega, rfl⟩) ?_
        refine q_geti dX6_costOfPlaces_31 fX6_90 (by rw [kd_8_0]; decide) (by first | decide | exact lt_sc (by omega) | exact lt_dy (by omega) | exact lt_rw (by omega) | exact lt_wa (by omega) | exact lt_le (by omega)) (by first | rfl | rw [sh_sc (by omega)] | rw [sh_dy (by omega)]) (by first | assumption | ((repeat ((with_reducible apply m_up2_tr); · first | omega | (intro z; (try unfold scI at z); (try unfold dyI at z); (try unfold rwI at z); (try unfold waI at z); (try unfold leI at z); omega))); first | assumption | exact m_up2_eq | rfl)) ?_
        refine ms_istore dX6_costOfPlaces_34 (Nat.le_of_ble_eq_true rfl) ?_
        refine ms_iload_n dX6_costOfPlaces_36 rfl ?_
        refine ms_iload dX6_costOfPlaces_37 rfl ?_
        refine qRN2 dX6_costOfPlaces_39 kX6_95 (d := d - 1) (by show d - 1 + 1 ≤ d; omega) rfl rfl (Nat.le_of_ble_eq_true rfl) (Nat.le_of_ble_eq_true rfl) (k_hasBit (b := pl k) _ (by omega)) rfl ?_
        refine ms_if_ne (tgt := 58) dX6_costOfPlaces_42 (by decide) (fun c42 => ?_) (fun c42 => ?_)
        · have e : cmG pl (fun p => I 70 p) (k + 1) = cmG pl (fun p => I 70 p) k := if_pos (bi_n0.mp c42)
          have h8 := h9 (some (.int (nI (pl k))))
          rw [e] at h8
          refine ms_iload_n dX6_costOfPlaces_58 rfl ?_
          refine ms_iconst (v := nI 1) dX6_costOfPlaces_59 (by decide) ?_
          refine ms_iload dX6_costOfPlaces_60 rfl ?_
          refine ms_ishl dX6_costOfPlaces_62 ?_
          refine ms_ior dX6_costOfPlaces_63 ?_
          refine ms_istore_n dX6_costOfPlaces_64 (Nat.le_of_ble_eq_true rfl) ?_
          refine n_iinc dX6_costOfPlaces_65 rfl ?_
          refine ms_goto (tgt := 7) dX6_costOfPlaces_68 (by decide) ?_
          exact h8
        · have e : cmG pl (fun p => I 70 p) (k + 1) = cmG pl (fun p => I 70 p) k + I 70 (pl k) := if_neg (by rw [bi_0.mp c42]; exact Bool.false_ne_true)
          have h8 := h9 (some (.int (nI (pl k))))
          rw [e] at h8
          refine ms_iload_n dX6_costOfPlaces_45 rfl ?_
          refine ms_aload_n dX6_costOfPlaces_46 rfl ?_
          refine q_getr dX6_costOfPlaces_47 fX6_19 kd_6_2 (by first | decide | exact lt_sc (by omega) | exact lt_dy (by omega) | exact lt_rw (by omega) | exact lt_wa (by omega) | exact lt_le (by omega)) (by first | rfl | rw [sh_sc (by omega)] | rw [sh_dy (by omega)]) (by first | rfl | exact rf_wa (by omega) | exact rf_le (by omega) | exact rf_rw (by omega)) ?_
          refine q_getr dX6_costOfPlaces_50 fX6_99 kd_7_0 (by first | decide | exact lt_sc (by omega) | exact lt_dy (by omega) | exact lt_rw (by omega) | exact lt_wa (by omega) | exact lt_le (by omega)) (by first | rfl | rw [sh_sc (by omega)] | rw [sh_dy (by omega)]) (by first | rfl | exact rf_wa (by omega) | exact rf_le (by omega) | exact rf_rw (by omega)) ?_
          refine ms_iload dX6_costOfPlaces_53 rfl ?_
          refine q_iald dX6_costOfPlaces_55 (by first | decide | exact lt_sc (by omega) | exact lt_dy (by omega) | exact lt_rw (by omega) | exact lt_wa (by omega) | exact lt_le (by omega)) (by first | rfl | exact sh_rw (by omega) | exact sh_wa (by omega) | exact sh_le (by omega)) (by omega) (by decide) rfl ?_
          refine ms_iadd dX6_costOfPlaces_56 ?_
          refine ms_istore_n dX6_costOfPlaces_57 (Nat.le_of_ble_eq_true rfl) ?_
          refine ms_iload_n dX6_costOfPlaces_58 rfl ?_
          refine ms_iconst (v := nI 1) dX6_costOfPlaces_59 (by decide) ?_
          refine ms_iload dX6_costOfPlaces_60 rfl ?_
          refine ms_ishl dX6_costOfPlaces_62 ?_
          refine ms_ior dX6_costOfPlaces_63 ?_
          refine ms_istore_n dX6_costOfPlaces_64 (Nat.le_of_ble_eq_true rfl) ?_
          refine n_iinc dX6_costOfPlaces_65 rfl ?_
          refine ms_goto (tgt := 7) dX6_costOfPlaces_68 (by decide) ?_
          exact h8
  refine ms_iconst (v := nI 0) dX6_costOfPlaces_0 (by decide) ?_
  refine ms_istore_n dX6_costOfPlaces_1 (Nat.le_of_ble_eq_true rfl) ?_
  refine ms_iconst (v := nI 0) dX6_costOfPlaces_2 (by decide) ?_
  refine ms_istore_n dX6_costOfPlaces_3 (Nat.le_of_ble_eq_true rfl) ?_
  refine ms_iconst (v := nI 0) dX6_costOfPlaces_4 (by decide) ?_
  refine ms_istore dX6_costOfPlaces_5 (Nat.le_of_ble_eq_true rfl) ?_
  exact loop (n + 1) 0 none (by omega) (by omega)
/-- the steady heap behind the clocks of k days -/
def pyJ (I : m_I) (n : Nat → Nat) (w pl : Nat → Nat → Nat) (pn : Nat) : Nat → m_I
  | 0 => I
  | k + 1 => rdI (pyJ I n w pl pn k) k (n k) (w k) (pl k) pn
/-- two heaps that differ in the clock's scratch alone -/
def smC (I J : m_I) : Prop := ∀ a b, (a ≠ 76 ∧ a ≠ 77 ∧ a ≠ 78 ∧ a ≠ 79) → (a ≠ 75 ∨ b < 8) → J a b = I a b
theorem smC_rd {I J : m_I} {t n pn : Nat} {w pl : Nat → Nat} (h : smC I J) : smC I (rdI J t n w pl pn) := fun a b h1 h2 => (rdI_ne h1 h2).trans (h a b h1 h2)
theorem smC_py {I : m_I} {n : Nat → Nat} {w pl : Nat → Nat → Nat} {pn k : Nat} : smC I (pyJ I n w pl pn k) := by
  induction k with
  | zero => exact fun _ _ _ _ => rfl
  | succ k ih => exact smC_rd ih
theorem smC_dy {I J : m_I} (h : smC I J) {t n : Nat} {w pl : Nat → Nat} (hD : DyC I t n w pl) : DyC J t n w pl := by
  obtain ⟨ht, hn, hn2, hw, hp⟩ := hD
  refine ⟨ht, (h _ _ (by unfold dyI; omega) (Or.inl (by unfold dyI; omega))).trans hn, hn2, fun j hj => ⟨(h _ _ (by unfold rwI; omega) (Or.inl (by unfold rwI; omega))).trans (hw j hj).1, (hw j hj).2⟩, fun j hj => ⟨(h _ _ ?_ (Or.inl ?_)).trans (hp j hj).1, (hp j hj).2⟩⟩ <;> (have := (hw j hj).2; unfold scI; omega)
theorem smC_pn {I J : m_I} (h : smC I J) {pn : Nat} (hP : Pn I pn) : Pn J pn := ⟨(h _ _ (by decide) (Or.inl (by decide))).trans hP.1, hP.2⟩
/-- behind k days: the money, the last day of work, its wrap, how many days on end -/
def pyG (rate deal : Int32) (more : Bool) (wk : Nat → Bool) (cl wr : Nat → Int32) : Nat → Int32 × Int32 × Int32 × Nat
  | 0 => (nI 0, -1, nI 0, 0)
  | k + 1 =>
    let q := pyG rate deal more wk cl wr k
    if wk k then
      let m1 := if more then q.1 else q.1 + rate * duF deal (nI k) q.2.1
      let m2 := m1 + (bhF (wr k - cl k - nI 600) + bhF (wr k - nI 1320)) * (rate / nI 10)
      let m3 := if 0 < q.2.2.2 ∧ cl k + nI 1440 - q.2.2.1 < nI 660 then m2 + rate / nI 4 else m2
      let m4 := if 5 ≤ q.2.2.2 then m3 + rate / nI 2 else m3
      (m4, nI k, wr k, q.2.2.2 + 1)
    else (q.1, q.2.1, q.2.2.1, 0)
theorem pyG_st (rate deal : Int32) (more : Bool) (wk : Nat → Bool) (cl wr : Nat → Int32) (k : Nat) : (pyG rate deal more wk cl wr k).2.2.2 ≤ k := by
  induction k with
  | zero => exact Nat.le_refl _
  | succ k ih =>
    unfold pyG
    dsimp only
    split
    · show _ + 1 ≤ _
      omega
    · exact Nat.zero_le _
def pwC (I : m_I) (n : Nat → Nat) (w pl : Nat → Nat → Nat) (pn p k : Nat) : Bool := bt (wkG (peC (pyJ I n w pl pn k) (w k)) (n k)) p
def pcC (I : m_I) (n : Nat → Nat) (w pl : Nat → Nat → Nat) (pn p k : Nat) : Int32 := clC (pyJ I n w pl pn k) k (n k) (w k) (pl k) p
def prC (I : m_I) (n : Nat → Nat) (w pl : Nat → Nat → Nat) (pn p k : Nat) : Int32 := wrC (pyJ I n w pl pn k) k (n k) (w k) (pl k) p
def paC (I : m_I) (n : Nat → Nat) (w pl : Nat → Nat → Nat) (pn p : Nat) (more : Bool) (k : Nat) : Int32 × Int32 × Int32 × Nat := pyG (I 67 p) (I 66 p) more (pwC I n w pl pn p) (pcC I n w pl pn p) (prC I n w pl pn p) k
theorem k_payOf {S : m_S} {I : m_I} {lg : Int64} {d pn p : Nat} {n : Nat → Nat} {w pl : Nat → Nat → Nat} (more : Bool) (hd : 6 ≤ d) (hD : ∀ t, t < 30 → DyC I t (n t) (w t) (pl t)) (hP : Pn I pn) (hp : p < pn) : m_R S M_X6_payOf d [.ref 142, .int (nI p), .int (bi more)] (hh I lg) (some (.int (paC I n w pl pn p more 30).1)) (hh (pyJ I n w pl pn 30) lg) := by
  have hp8 : p < 8 := by have := hP.2; omega
  have h10 : ¬ (nI 10 : Int32) = 0 := by decide
  have h4 : ¬ (nI 4 : Int32) = 0 := by decide
  have h2 : ¬ (nI 2 : Int32) = 0 := by decide
  have loop : ∀ (q k : Nat) (d9 d10 d11 : Option Value), k ≤ 30 → 30 - k < q → m_W S (M_X6_payOf, d, fun w9 g => w9 = some (.int (paC I n w pl pn p more 30).1) ∧ g = hh (pyJ I n w pl pn 30) lg, fun _ _ => False) 25 [some (.ref 142), some (.int (nI p)), some (.int (bi more)), some (.int (I 67 p)), some (.int (paC I n w pl pn p more k).1), some (.int (paC I n w pl pn p more k).2.1), some (.int (paC I n w pl pn p more k).2.2.1), some (.int (nI (paC I n w pl pn p more k).2.2.2)), some (.int (nI k)), d9, d10, d11] [] (hh (pyJ I n w pl pn k) lg) 0 0 := by
    intro q
    induction q with
    | zero => intro k _ _ _ _ h; omega
    | succ q ih =>
      intro k d9 d10 d11 hk hq
      have hst : (paC I n w pl pn p more k).2.2.2 ≤ k := pyG_st _ _ _ _ _ _ k
      refine ms_iload dX6_payOf_25 rfl ?_
      refine ms_bipush (v := nI 30) dX6_payOf_27 (by decide) ?_
      refine n_icmp_ge (tgt := 194) dX6_payOf_29 (by decide) (by omega) (by omega) (fun c29 => ?_) (fun c29 => ?_)
      · obtain rfl : k = 30 := by omega
        refine ms_iload dX6_payOf_194 rfl ?_
        refine ms_iret dX6_payOf_196 rfl rfl ⟨?_, ?_⟩
        · rfl
        · rfl
      · have hDk := smC_dy (smC_py (I := I) (n := n) (w := w) (pl := pl) (pn := pn) (k := k)) (hD k (by omega))
        have hPk := smC_pn (smC_py (I := I) (n := n) (w := w) (pl := pl) (pn := pn) (k := k)) hP
        have hck := k_clockOf (S := S) (lg := lg) (d := d - 1) (by omega) hDk hPk
        have hwf := k_hasWorkFor (S := S) (lg := lg) (I := pyJ I n w pl pn (k + 1)) (d := d - 1) (p := p) (by omega) (by omega)
        have hwk : pyJ I n w pl pn (k + 1) 75 8 = wkG (peC (pyJ I n w pl pn k) (w k)) (n k) := rdI_wk
        rw [hwk] at hwf
        have hcl : pyJ I n w pl pn (k + 1) 78 p = pcC I n w pl pn p k := rdI_cl hp
        have hwr : pyJ I n w pl pn (k + 1) 79 p = prC I n w pl pn p k := rdI_wr hp
        have hde : pyJ I n w pl pn (k + 1) 66 p = I 66 p := smC_py _ _ (by decide) (Or.inl (by decide))
        have h9 := fun d9 d10 d11 => ih (k + 1) d9 d10 d11 (by omega) (by omega)
        obtain ⟨x, hx⟩ : ∃ x, x = paC I n w pl pn p more k := ⟨_, rfl⟩
        rw [← hx] at hst ⊢
        refine ms_aload_n dX6_payOf_32 rfl ?_
        refine q_getr dX6_payOf_33 fX6_23 kd_6_3 (by first | decide | exact lt_sc (by omega) | exact lt_dy (by omega) | exact lt_rw (by omega) | exact lt_wa (by omega) | exact lt_le (by omega)) (by first | rfl | rw [sh_sc (by omega)] | rw [sh_dy (by omega)]) (by first | rfl | exact rf_wa (by omega) | exact rf_le (by omega) | exact rf_rw (by omega)) ?_
        refine ms_iload dX6_payOf_36 rfl ?_
        refine qRV1 dX6_payOf_38 kX6_33 (by show _ < 178; first | decide | exact lt_sc (by omega) | exact lt_dy (by omega)) (by show (sh0 _).1 = _; first | rfl | rw [sh_sc (by omega)] | rw [sh_dy (by omega)]) (d := d - 1) (by show d - 1 + 1 ≤ d; omega) rfl (Nat.le_of_ble_eq_true rfl) (Nat.le_of_ble_eq_true rfl) (hck) rfl ?_
        show m_W S _ 41 _ _ (hh (pyJ I n w pl pn (k + 1)) lg) 0 0
        refine ms_astore dX6_payOf_41 (Nat.le_of_ble_eq_true rfl) ?_
        refine ms_aload dX6_payOf_43 rfl ?_
        refine ms_iload_n dX6_payOf_45 rfl ?_
        refine qRV1 dX6_payOf_46 kX6_39 (by show _ < 178; first | decide | exact lt_sc (by omega) | exact lt_dy (by omega)) (by show (sh0 _).1 = _; first | rfl | rw [sh_sc (by omega)] | rw [sh_dy (by omega)]) (d := d - 1) (by show d - 1 + 1 ≤ d; omega) rfl (Nat.le_of_ble_eq_true rfl) (Nat.le_of_ble_eq_true rfl) (hwf) rfl ?_
        refine ms_if_ne (tgt := 58) dX6_payOf_49 (by decide) (fun c49 => ?_) (fun c49 => ?_)
        · have hwt : pwC I n w pl pn p k = true := bi_n0.mp c49
          obtain ⟨m1, hm1⟩ : ∃ z, z = if more then x.1 else x.1 + I 67 p * duF (I 66 p) (nI k) x.2.1 := ⟨_, rfl⟩
          obtain ⟨m2, hm2⟩ : ∃ z, z = m1 + (bhF (prC I n w pl pn p k - pcC I n w pl pn p k - nI 600) + bhF (prC I n w pl pn p k - nI 1320)) * (I 67 p / nI 10) := ⟨_, rfl⟩
          obtain ⟨m3, hm3⟩ : ∃ z, z = if 0 < x.2.2.2 ∧ pcC I n w pl pn p k + nI 1440 - x.2.2.1 < nI 660 then m2 + I 67 p / nI 4 else m2 := ⟨_, rfl⟩
          obtain ⟨m4, hm4⟩ : ∃ z, z = if 5 ≤ x.2.2.2 then m3 + I 67 p / nI 2 else m3 := ⟨_, rfl⟩
          have e : paC I n w pl pn p more (k + 1) = (m4, nI k, prC I n w pl pn p k, x.2.2.2 + 1) := by
            rw [hm4, hm3, hm2, hm1, hx]
            show pyG _ _ _ _ _ _ (k + 1) = _
            conv => lhs; unfold pyG
            rw [if_pos hwt]
            rfl
          rw [e] at h9
          have J4 : ∀ v, v = m4 → ∀ d9 d10, m_W S (M_X6_payOf, d, fun w9 g => w9 = some (.int (paC I n w pl pn p more 30).1) ∧ g = hh (pyJ I n w pl pn 30) lg, fun _ _ => False) 177 [some (.ref 142), some (.int (nI p)), some (.int (bi more)), some (.int (I 67 p)), some (.int v), some (.int x.2.1), some (.int x.2.2.1), some (.int (nI x.2.2.2)), some (.int (nI k)), d9, d10, some (.int (prC I n w pl pn p k))] [] (hh (pyJ I n w pl pn (k + 1)) lg) 0 0 := by
            intro v hv d9 d10
            subst hv
            refine n_iinc dX6_payOf_177 rfl ?_
            refine ms_iload dX6_payOf_180 rfl ?_
            refine ms_istore dX6_payOf_182 (Nat.le_of_ble_eq_true rfl) ?_
            refine ms_iload dX6_payOf_184 rfl ?_
            refine ms_istore dX6_payOf_186 (Nat.le_of_ble_eq_true rfl) ?_
            refine n_iinc dX6_payOf_188 rfl ?_
            refine ms_goto (tgt := 25) dX6_payOf_191 (by decide) ?_
            exact h9 _ _ _
          have J3 : ∀ v, v = m3 → ∀ d9 d10, m_W S (M_X6_payOf, d, fun w9 g => w9 = some (.int (paC I n w pl pn p more 30).1) ∧ g = hh (pyJ I n w pl pn 30) lg, fun _ _ => False) 163 [some (.ref 142), some (.int (nI p)), some (.int (bi more)), some (.int (I 67 p)), some (.int v), some (.int x.2.1), some (.int x.2.2.1), some (.int (nI x.2.2.2)), some (.int (nI k)), d9, d10, some (.int (prC I n w pl pn p k))] [] (hh (pyJ I n w pl pn (k + 1)) lg) 0 0 := by
            intro v hv d9 d10
            refine ms_iload dX6_payOf_163 rfl ?_
            refine ms_iconst (v := nI 5) dX6_payOf_165 (by decide) ?_
            refine n_icmp_lt (tgt := 177) dX6_payOf_166 (by decide) (by omega) (by omega) (fun c166 => ?_) (fun c166 => ?_)
            · exact J4 v (by rw [hm4, if_neg (by omega)]; exact hv) _ _
            · refine ms_iload dX6_payOf_169 rfl ?_
              refine ms_iload_n dX6_payOf_171 rfl ?_
              refine ms_iconst (v := nI 2) dX6_payOf_172 (by decide) ?_
              refine ms_idiv dX6_payOf_173 (by first | decide | assumption) ?_
              refine ms_iadd dX6_payOf_174 ?_
              refine ms_istore dX6_payOf_175 (Nat.le_of_ble_eq_true rfl) ?_
              exact J4 _ (by rw [hm4, if_pos c166, hv]) _ _
          have J2 : ∀ v, v = m1 → m_W S (M_X6_payOf, d, fun w9 g => w9 = some (.int (paC I n w pl pn p more 30).1) ∧ g = hh (pyJ I n w pl pn 30) lg, fun _ _ => False) 103 [some (.ref 142), some (.int (nI p)), some (.int (bi more)), some (.int (I 67 p)), some (.int v), some (.int x.2.1), some (.int x.2.2.1), some (.int (nI x.2.2.2)), some (.int (nI k)), some (.ref 75), some (.int (pcC I n w pl pn p k)), some (.int (prC I n w pl pn p k))] [] (hh (pyJ I n w pl pn (k + 1)) lg) 0 0 := by
            intro v hv
            refine ms_iload dX6_payOf_103 rfl ?_
            refine ms_iload dX6_payOf_105 rfl ?_
            refine ms_iload dX6_payOf_107 rfl ?_
            refine ms_isub dX6_payOf_109 ?_
            refine ms_sipush (v := nI 600) dX6_payOf_110 (by decide) ?_
            refine ms_isub dX6_payOf_113 ?_
            refine qRS1 dX6_payOf_114 kX6_58 (d := d - 1) (by show d - 1 + 1 ≤ d; omega) rfl (Nat.le_of_ble_eq_true rfl) (Nat.le_of_ble_eq_true rfl) (k_begunHours _) rfl ?_
            refine ms_iload dX6_payOf_117 rfl ?_
            refine ms_sipush (v := nI 1320) dX6_payOf_119 (by decide) ?_
            refine ms_isub dX6_payOf_122 ?_
            refine qRS1 dX6_payOf_123 kX6_58 (d := d - 1) (by show d - 1 + 1 ≤ d; omega) rfl (Nat.le_of_ble_eq_true rfl) (Nat.le_of_ble_eq_true rfl) (k_begunHours _) rfl ?_
            refine ms_iadd dX6_payOf_126 ?_
            refine ms_iload_n dX6_payOf_127 rfl ?_
            refine ms_bipush (v := nI 10) dX6_payOf_128 (by decide) ?_
            refine ms_idiv dX6_payOf_130 (by first | decide | assumption) ?_
            refine ms_imul dX6_payOf_131 ?_
            refine ms_iadd dX6_payOf_132 ?_
            refine ms_istore dX6_payOf_133 (Nat.le_of_ble_eq_true rfl) ?_
            rw [show v + (bhF (prC I n w pl pn p k - pcC I n w pl pn p k - nI 600) + bhF (prC I n w pl pn p k - nI 1320)) * (I 67 p / nI 10) = m2 by rw [hm2, hv]]
            refine ms_iload dX6_payOf_135 rfl ?_
            refine ms_if_le (tgt := 163) dX6_payOf_137 (by decide) (fun c137 => ?_) (fun c137 => ?_)
            · have hz : ¬ 0 < x.2.2.2 := fun z => nI_nle z (by omega) c137
              exact J3 m2 (by rw [hm3, if_neg (fun z => hz z.1)]) _ _
            · have hz : 0 < x.2.2.2 := by
                rcases Nat.eq_zero_or_pos x.2.2.2 with z | z
                · rw [z] at c137; exact absurd (by decide) c137
                · exact z
              refine ms_iload dX6_payOf_140 rfl ?_
              refine ms_sipush (v := nI 1440) dX6_payOf_142 (by decide) ?_
              refine ms_iadd dX6_payOf_145 ?_
              refine ms_iload dX6_payOf_146 rfl ?_
              refine ms_isub dX6_payOf_148 ?_
              refine ms_sipush (v := nI 660) dX6_payOf_149 (by decide) ?_
              refine ms_icmp_ge (tgt := 163) dX6_payOf_152 (by decide) (fun c152 => ?_) (fun c152 => ?_)
              · exact J3 m2 (by rw [hm3, if_neg (fun z => (Int32.not_lt.mpr c152) z.2)]) _ _
              · refine ms_iload dX6_payOf_155 rfl ?_
                refine ms_iload_n dX6_payOf_157 rfl ?_
                refine ms_iconst (v := nI 4) dX6_payOf_158 (by decide) ?_
                refine ms_idiv dX6_payOf_159 (by first | decide | assumption) ?_
                refine ms_iadd dX6_payOf_160 ?_
                refine ms_istore dX6_payOf_161 (Nat.le_of_ble_eq_true rfl) ?_
                exact J3 _ (by rw [hm3, if_pos ⟨hz, Int32.not_le.mp c152⟩]) _ _
          refine ms_aload dX6_payOf_58 rfl ?_
          refine q_getr dX6_payOf_60 fX6_45 kd_1_6 (by first | decide | exact lt_sc (by omega) | exact lt_dy (by omega) | exact lt_rw (by omega) | exact lt_wa (by omega) | exact lt_le (by omega)) (by first | rfl | rw [sh_sc (by omega)] | rw [sh_dy (by omega)]) (by first | rfl | exact rf_wa (by omega) | exact rf_le (by omega) | exact rf_rw (by omega)) ?_
          refine ms_iload_n dX6_payOf_63 rfl ?_
          refine q_iald dX6_payOf_64 (by first | decide | exact lt_sc (by omega) | exact lt_dy (by omega) | exact lt_rw (by omega) | exact lt_wa (by omega) | exact lt_le (by omega)) (by first | rfl | exact sh_rw (by omega) | exact sh_wa (by omega) | exact sh_le (by omega)) (by omega) (by decide) (by first | assumption | ((repeat ((with_reducible apply m_up2_tr); · first | omega | (intro z; (try unfold scI at z); (try unfold dyI at z); (try unfold rwI at z); (try unfold waI at z); (try unfold leI at z); omega))); first | assumption | exact m_up2_eq | rfl)) ?_
          refine ms_istore dX6_payOf_65 (Nat.le_of_ble_eq_true rfl) ?_
          refine ms_aload dX6_payOf_67 rfl ?_
          refine q_getr dX6_payOf_69 fX6_48 kd_1_7 (by first | decide | exact lt_sc (by omega) | exact lt_dy (by omega) | exact lt_rw (by omega) | exact lt_wa (by omega) | exact lt_le (by omega)) (by first | rfl | rw [sh_sc (by omega)] | rw [sh_dy (by omega)]) (by first | rfl | exact rf_wa (by omega) | exact rf_le (by omega) | exact rf_rw (by omega)) ?_
          refine ms_iload_n dX6_payOf_72 rfl ?_
          refine q_iald dX6_payOf_73 (by first | decide | exact lt_sc (by omega) | exact lt_dy (by omega) | exact lt_rw (by omega) | exact lt_wa (by omega) | exact lt_le (by omega)) (by first | rfl | exact sh_rw (by omega) | exact sh_wa (by omega) | exact sh_le (by omega)) (by omega) (by decide) (by first | assumption | ((repeat ((with_reducible apply m_up2_tr); · first | omega | (intro z; (try unfold scI at z); (try unfold dyI at z); (try unfold rwI at z); (try unfold waI at z); (try unfold leI at z); omega))); first | assumption | exact m_up2_eq | rfl)) ?_
          refine ms_istore dX6_payOf_74 (Nat.le_of_ble_eq_true rfl) ?_
          refine ms_iload_n dX6_payOf_76 rfl ?_
          refine ms_if_ne (tgt := 103) dX6_payOf_77 (by decide) (fun c77 => ?_) (fun c77 => ?_)
          · exact J2 x.1 (by rw [hm1, if_pos (bi_n0.mp c77)])
          · refine ms_iload dX6_payOf_80 rfl ?_
            refine ms_iload_n dX6_payOf_82 rfl ?_
            refine ms_aload_n dX6_payOf_83 rfl ?_
            refine q_getr dX6_payOf_84 fX6_15 kd_6_1 (by first | decide | exact lt_sc (by omega) | exact lt_dy (by omega) | exact lt_rw (by omega) | exact lt_wa (by omega) | exact lt_le (by omega)) (by first | rfl | rw [sh_sc (by omega)] | rw [sh_dy (by omega)]) (by first | rfl | exact rf_wa (by omega) | exact rf_le (by omega) | exact rf_rw (by omega)) ?_
            refine q_getr dX6_payOf_87 fX6_51 kd_2_0 (by first | decide | exact lt_sc (by omega) | exact lt_dy (by omega) | exact lt_rw (by omega) | exact lt_wa (by omega) | exact lt_le (by omega)) (by first | rfl | rw [sh_sc (by omega)] | rw [sh_dy (by omega)]) (by first | rfl | exact rf_wa (by omega) | exact rf_le (by omega) | exact rf_rw (by omega)) ?_
            refine ms_iload_n dX6_payOf_90 rfl ?_
            refine q_iald dX6_payOf_91 (by first | decide | exact lt_sc (by omega) | exact lt_dy (by omega) | exact lt_rw (by omega) | exact lt_wa (by omega) | exact lt_le (by omega)) (by first | rfl | exact sh_rw (by omega) | exact sh_wa (by omega) | exact sh_le (by omega)) (by omega) (by decide) (by first | assumption | ((repeat ((with_reducible apply m_up2_tr); · first | omega | (intro z; (try unfold scI at z); (try unfold dyI at z); (try unfold rwI at z); (try unfold waI at z); (try unfold leI at z); omega))); first | assumption | exact m_up2_eq | rfl)) ?_
            refine ms_iload dX6_payOf_92 rfl ?_
            refine ms_iload dX6_payOf_94 rfl ?_
            refine qRS3 dX6_payOf_96 kX6_54 (d := d - 1) (by show d - 1 + 1 ≤ d; omega) rfl rfl rfl (Nat.le_of_ble_eq_true rfl) (Nat.le_of_ble_eq_true rfl) (k_dueTimes _ _ _) rfl ?_
            refine ms_imul dX6_payOf_99 ?_
            refine ms_iadd dX6_payOf_100 ?_
            refine ms_istore dX6_payOf_101 (Nat.le_of_ble_eq_true rfl) ?_
            exact J2 _ (by rw [hm1, if_neg (by rw [bi_0.mp c77]; exact Bool.false_ne_true)])
        · have hwt : pwC I n w pl pn p k = false := bi_0.mp c49
          have e : paC I n w pl pn p more (k + 1) = (x.1, x.2.1, x.2.2.1, 0) := by
            rw [hx]
            show pyG _ _ _ _ _ _ (k + 1) = _
            conv => lhs; unfold pyG
            rw [if_neg (by rw [hwt]; exact Bool.false_ne_true)]
            rfl
          rw [e] at h9
          refine ms_iconst (v := nI 0) dX6_payOf_52 (by decide) ?_
          refine ms_istore dX6_payOf_53 (Nat.le_of_ble_eq_true rfl) ?_
          refine ms_goto (tgt := 188) dX6_payOf_55 (by decide) ?_
          refine n_iinc dX6_payOf_188 rfl ?_
          refine ms_goto (tgt := 25) dX6_payOf_191 (by decide) ?_
          exact h9 _ _ _
  refine ms_aload_n dX6_payOf_0 rfl ?_
  refine q_getr dX6_payOf_1 fX6_15 kd_6_1 (by first | decide | exact lt_sc (by omega) | exact lt_dy (by omega) | exact lt_rw (by omega) | exact lt_wa (by omega) | exact lt_le (by omega)) (by first | rfl | rw [sh_sc (by omega)] | rw [sh_dy (by omega)]) (by first | rfl | exact rf_wa (by omega) | exact rf_le (by omega) | exact rf_rw (by omega)) ?_
  refine q_getr dX6_payOf_4 fX6_27 kd_2_1 (by first | decide | exact lt_sc (by omega) | exact lt_dy (by omega) | exact lt_rw (by omega) | exact lt_wa (by omega) | exact lt_le (by omega)) (by first | rfl | rw [sh_sc (by omega)] | rw [sh_dy (by omega)]) (by first | rfl | exact rf_wa (by omega) | exact rf_le (by omega) | exact rf_rw (by omega)) ?_
  refine ms_iload_n dX6_payOf_7 rfl ?_
  refine q_iald dX6_payOf_8 (by first | decide | exact lt_sc (by omega) | exact lt_dy (by omega) | exact lt_rw (by omega) | exact lt_wa (by omega) | exact lt_le (by omega)) (by first | rfl | exact sh_rw (by omega) | exact sh_wa (by omega) | exact sh_le (by omega)) (by omega) (by decide) rfl ?_
  refine ms_istore_n dX6_payOf_9 (Nat.le_of_ble_eq_true rfl) ?_
  refine ms_iconst (v := nI 0) dX6_payOf_10 (by decide) ?_
  refine ms_istore dX6_payOf_11 (Nat.le_of_ble_eq_true rfl) ?_
  refine ms_iconst (v := -1) dX6_payOf_13 (by decide) ?_
  refine ms_istore dX6_payOf_14 (Nat.le_of_ble_eq_true rfl) ?_
  refine ms_iconst (v := nI 0) dX6_payOf_16 (by decide) ?_
  refine ms_istore dX6_payOf_17 (Nat.le_of_ble_eq_true rfl) ?_
  refine ms_iconst (v := nI 0) dX6_payOf_19 (by decide) ?_
  refine ms_istore dX6_payOf_20 (Nat.le_of_ble_eq_true rfl) ?_
  refine ms_iconst (v := nI 0) dX6_payOf_22 (by decide) ?_
  refine ms_istore dX6_payOf_23 (Nat.le_of_ble_eq_true rfl) ?_
  exact loop 31 0 none none none (by omega) (by omega)
/-- the steady heap, the money behind k people -/
def caJ (I : m_I) (n : Nat → Nat) (w pl : Nat → Nat → Nat) (pn : Nat) : Nat → m_I
  | 0 => I
  | k + 1 => pyJ (caJ I n w pl pn k) n w pl pn 30
theorem smC_tr {I J K : m_I} (h : smC I J) (h2 : smC J K) : smC I K := fun a b z1 z2 => (h2 a b z1 z2).trans (h a b z1 z2)
theorem smC_ca {I : m_I} {n : Nat → Nat} {w pl : Nat → Nat → Nat} {pn k : Nat} : smC I (caJ I n w pl pn k) := by
  induction k with
  | zero => exact fun _ _ _ _ => rfl
  | succ k ih => exact smC_tr ih smC_py
def caM (I : m_I) (n : Nat → Nat) (w pl : Nat → Nat → Nat) (pn : Nat) : Nat → Int32
  | 0 => nI 0
  | k + 1 => caM I n w pl pn k + (paC (caJ I n w pl pn k) n w pl pn k false 30).1
def cdM (I : m_I) (n : Nat → Nat) (pl : Nat → Nat → Nat) (x : Int32) : Nat → Int32
  | 0 => x
  | k + 1 => cdM I n pl x k + cmG (pl k) (fun p => I 70 p) (n k)
theorem k_costOfAll {S : m_S} {I : m_I} {lg : Int64} {d pn : Nat} {n : Nat → Nat} {w pl : Nat → Nat → Nat} (hd : 7 ≤ d) (hD : ∀ t, t < 30 → DyC I t (n t) (w t) (pl t)) (hP : Pn I pn) : m_R S M_X6_costOfAll d [.ref 142] (hh I lg) (some (.int (cdM I n pl (caM I n w pl pn pn) 30))) (hh (caJ I n w pl pn pn) lg) := by
  have hP2 := hP.2
  have loop2 : ∀ (q k : Nat), k ≤ 30 → 30 - k < q → m_W S (M_X6_costOfAll, d, fun w9 g9 => w9 = some (.int (cdM I n pl (caM I n w pl pn pn) 30)) ∧ g9 = hh (caJ I n w pl pn pn) lg, fun _ _ => False) 32 [some (.ref 142), some (.int (cdM I n pl (caM I n w pl pn pn) k)), some (.int (nI k))] [] (hh (caJ I n w pl pn pn) lg) 0 0 := by
    intro q
    induction q with
    | zero => intro k  _ h; omega
    | succ q ih =>
      intro k  hk hq
      refine ms_iload_n dX6_costOfAll_32 rfl ?_
      refine ms_bipush (v := nI 30) dX6_costOfAll_33 (by decide) ?_
      refine n_icmp_ge (tgt := 60) dX6_costOfAll_35 (by decide) (by omega) (by omega) (fun c35 => ?_) (fun c35 => ?_)
      · obtain rfl : k = 30 := by omega
        refine ms_iload_n dX6_costOfAll_60 rfl ?_
        refine ms_iret dX6_costOfAll_61 rfl rfl ⟨?_, ?_⟩
        · rfl
        · rfl
      · have hDk := smC_dy (smC_ca (I := I) (n := n) (w := w) (pl := pl) (pn := pn) (k := pn)) (hD k (by omega))
        have hc := k_costOfPlaces (S := S) (lg := lg) (d := d - 1) (by omega) hDk
        have e : ∀ p, caJ I n w pl pn pn 70 p = I 70 p := fun p => smC_ca _ _ (by decide) (Or.inl (by decide))
        rw [show (fun p => caJ I n w pl pn pn 70 p) = (fun p => I 70 p) from funext e] at hc
        refine ms_iload_n dX6_costOfAll_38 rfl ?_
        refine ms_aload_n dX6_costOfAll_39 rfl ?_
        refine ms_aload_n dX6_costOfAll_40 rfl ?_
        refine q_getr dX6_costOfAll_41 fX6_23 kd_6_3 (by first | decide | exact lt_sc (by omega) | exact lt_dy (by omega) | exact lt_rw (by omega) | exact lt_wa (by omega) | exact lt_le (by omega)) (by first | rfl | rw [sh_sc (by omega)] | rw [sh_dy (by omega)]) (by first | rfl | exact rf_wa (by omega) | exact rf_le (by omega) | exact rf_rw (by omega)) ?_
        refine q_getr dX6_costOfAll_44 fX6_70 kd_0_2 (by first | decide | exact lt_sc (by omega) | exact lt_dy (by omega) | exact lt_rw (by omega) | exact lt_wa (by omega) | exact lt_le (by omega)) (by first | rfl | rw [sh_sc (by omega)] | rw [sh_dy (by omega)]) (by first | rfl | exact rf_wa (by omega) | exact rf_le (by omega) | exact rf_rw (by omega)) ?_
        refine ms_iload_n dX6_costOfAll_47 rfl ?_
        refine q_aald dX6_costOfAll_48 (by first | exact Or.inl ⟨rfl, by omega, rfl⟩ | exact Or.inr ⟨rfl, by omega, rfl⟩) ?_
        refine qRV1 dX6_costOfAll_49 kX6_74 (by show _ < 178; first | decide | exact lt_sc (by omega) | exact lt_dy (by omega)) (by show (sh0 _).1 = _; first | rfl | rw [sh_sc (by omega)] | rw [sh_dy (by omega)]) (d := d - 1) (by show d - 1 + 1 ≤ d; omega) rfl (Nat.le_of_ble_eq_true rfl) (Nat.le_of_ble_eq_true rfl) (hc) rfl ?_
        refine ms_iadd dX6_costOfAll_52 ?_
        refine ms_istore_n dX6_costOfAll_53 (Nat.le_of_ble_eq_true rfl) ?_
        refine n_iinc dX6_costOfAll_54 rfl ?_
        refine ms_goto (tgt := 32) dX6_costOfAll_57 (by decide) ?_
        exact ih (k + 1) (by omega) (by omega)
  have loop1 : ∀ (q k : Nat), k ≤ pn → pn - k < q → m_W S (M_X6_costOfAll, d, fun w9 g9 => w9 = some (.int (cdM I n pl (caM I n w pl pn pn) 30)) ∧ g9 = hh (caJ I n w pl pn pn) lg, fun _ _ => False) 4 [some (.ref 142), some (.int (caM I n w pl pn k)), some (.int (nI k))] [] (hh (caJ I n w pl pn k) lg) 0 0 := by
    intro q
    induction q with
    | zero => intro k  _ h; omega
    | succ q ih =>
      intro k  hk hq
      have hPk := smC_pn (smC_ca (I := I) (n := n) (w := w) (pl := pl) (pn := pn) (k := k)) hP
      have hPk1 := hPk.1
      refine ms_iload_n dX6_costOfAll_4 rfl ?_
      refine ms_aload_n dX6_costOfAll_5 rfl ?_
      refine q_getr dX6_costOfAll_6 fX6_15 kd_6_1 (by first | decide | exact lt_sc (by omega) | exact lt_dy (by omega) | exact lt_rw (by omega) | exact lt_wa (by omega) | exact lt_le (by omega)) (by first | rfl | rw [sh_sc (by omega)] | rw [sh_dy (by omega)]) (by first | rfl | exact rf_wa (by omega) | exact rf_le (by omega) | exact rf_rw (by omega)) ?_
      refine q_geti dX6_costOfAll_9 fX6_62 (by rw [kd_2_4]; decide) (by first | decide | exact lt_sc (by omega) | exact lt_dy (by omega) | exact lt_rw (by omega) | exact lt_wa (by omega) | exact lt_le (by omega)) (by first | rfl | rw [sh_sc (by omega)] | rw [sh_dy (by omega)]) (by first | assumption | ((repeat ((with_reducible apply m_up2_tr); · first | omega | (intro z; (try unfold scI at z); (try unfold dyI at z); (try unfold rwI at z); (try unfold waI at z); (try unfold leI at z); omega))); first | assumption | exact m_up2_eq | rfl)) ?_
      refine n_icmp_ge (tgt := 30) dX6_costOfAll_12 (by decide) (by omega) (by omega) (fun c12 => ?_) (fun c12 => ?_)
      · obtain rfl : k = pn := by omega
        refine ms_iconst (v := nI 0) dX6_costOfAll_30 (by decide) ?_
        refine ms_istore_n dX6_costOfAll_31 (Nat.le_of_ble_eq_true rfl) ?_
        exact loop2 31 0 (by omega) (by omega)
      · have hpa := k_payOf (S := S) (lg := lg) (I := caJ I n w pl pn k) (d := d - 1) (p := k) false (by omega) (fun t ht => smC_dy (smC_ca (I := I) (n := n) (w := w) (pl := pl) (pn := pn) (k := k)) (hD t ht)) hPk (by omega)
        refine ms_iload_n dX6_costOfAll_15 rfl ?_
        refine ms_aload_n dX6_costOfAll_16 rfl ?_
        refine ms_iload_n dX6_costOfAll_17 rfl ?_
        refine ms_iconst (v := nI 0) dX6_costOfAll_18 (by decide) ?_
        refine qRV2 dX6_costOfAll_19 kX6_66 (by show _ < 178; first | decide | exact lt_sc (by omega) | exact lt_dy (by omega)) (by show (sh0 _).1 = _; first | rfl | rw [sh_sc (by omega)] | rw [sh_dy (by omega)]) (d := d - 1) (by show d - 1 + 1 ≤ d; omega) rfl rfl (Nat.le_of_ble_eq_true rfl) (Nat.le_of_ble_eq_true rfl) (hpa) rfl ?_
        refine ms_iadd dX6_costOfAll_22 ?_
        refine ms_istore_n dX6_costOfAll_23 (Nat.le_of_ble_eq_true rfl) ?_
        refine n_iinc dX6_costOfAll_24 rfl ?_
        refine ms_goto (tgt := 4) dX6_costOfAll_27 (by decide) ?_
        exact ih (k + 1) (by omega) (by omega)
  refine ms_iconst (v := nI 0) dX6_costOfAll_0 (by decide) ?_
  refine ms_istore_n dX6_costOfAll_1 (Nat.le_of_ble_eq_true rfl) ?_
  refine ms_iconst (v := nI 0) dX6_costOfAll_2 (by decide) ?_
  refine ms_istore_n dX6_costOfAll_3 (Nat.le_of_ble_eq_true rfl) ?_
  exact loop1 (pn + 1) 0 (by omega) (by omega)

