/-! the clock of a day, read -/
def bgC (I : m_I) (t : Nat) (w pl : Nat → Nat) : Nat → Int32 := bgG (I (dyI t) 0) (laC I w) (moC I pl)
def enC (I : m_I) (t : Nat) (w pl : Nat → Nat) : Nat → Int32 := enG (I (dyI t) 0) (laC I w) (moC I pl)
def peC (I : m_I) (w : Nat → Nat) (j : Nat) : Int32 := I (scI (w j)) 4
def clC (I : m_I) (t n : Nat) (w pl : Nat → Nat) (p : Nat) : Int32 := clG (peC I w) (bgC I t w pl) (I 68 p) (I 78 p) p n
def wrC (I : m_I) (t n : Nat) (w pl : Nat → Nat) (p : Nat) : Int32 := wrG (peC I w) (enC I t w pl) (I 79 p) p n
def loC2 (I : m_I) (t n : Nat) (w pl : Nat → Nat) : Bool := decide (I (dyI t) 0 + nI 720 < (ckG (I (dyI t) 0) (laC I w) (moC I pl) n).1)
def tdC (I : m_I) (t n : Nat) (w pl : Nat → Nat) (pn : Nat) : Int32 := tdG (wkG (peC I w) n &&& I 65 3) (clC I t n w pl) (wrC I t n w pl) pn
def rd1 (I : m_I) (t n : Nat) (w pl : Nat → Nat) : m_I := m_up2 (rrI I (bgC I t w pl) (enC I t w pl) n) 75 10 (bi (loC2 I t n w pl))
def rdI (I : m_I) (t n : Nat) (w pl : Nat → Nat) (pn : Nat) : m_I := m_up2 (rpI (rd1 I t n w pl) (peC I w) (bgC I t w pl) (enC I t w pl) (fun p => I 68 p) pn n 0) 75 9 (tdC I t n w pl pn)
theorem rd1_ne {I : m_I} {t n : Nat} {w pl : Nat → Nat} {a b : Nat} (h : a ≠ 76 ∧ a ≠ 77) (h2 : a ≠ 75 ∨ b ≠ 10) : rd1 I t n w pl a b = I a b := (m_up2_ne (by omega)).trans (rrI_ne h)
theorem rdI_ne {I : m_I} {t n pn : Nat} {w pl : Nat → Nat} {a b : Nat} (h : a ≠ 76 ∧ a ≠ 77 ∧ a ≠ 78 ∧ a ≠ 79) (h2 : a ≠ 75 ∨ b < 8) : rdI I t n w pl pn a b = I a b :=
  (m_up2_ne (by omega)).trans ((rpI_ne ⟨h.2.2.1, h.2.2.2⟩ (by omega)).trans (rd1_ne ⟨h.1, h.2.1⟩ (by omega)))
theorem rdI_bg {I : m_I} {t n pn : Nat} {w pl : Nat → Nat} {j : Nat} (hj : j < n) : rdI I t n w pl pn 76 j = bgC I t w pl j :=
  (m_up2_ne (by omega)).trans ((rpI_ne (by decide) (Or.inl (by decide))).trans ((m_up2_ne (by omega)).trans (if_pos ⟨rfl, hj⟩)))
theorem rdI_en {I : m_I} {t n pn : Nat} {w pl : Nat → Nat} {j : Nat} (hj : j < n) : rdI I t n w pl pn 77 j = enC I t w pl j :=
  (m_up2_ne (by omega)).trans ((rpI_ne (by decide) (Or.inl (by decide))).trans ((m_up2_ne (by omega)).trans ((if_neg (by omega)).trans (if_pos ⟨rfl, hj⟩))))
theorem rdI_lo {I : m_I} {t n pn : Nat} {w pl : Nat → Nat} : rdI I t n w pl pn 75 10 = bi (loC2 I t n w pl) :=
  (m_up2_ne (by omega)).trans ((rpI_ne (by decide) (Or.inr (by decide))).trans m_up2_eq)
theorem rdI_td {I : m_I} {t n pn : Nat} {w pl : Nat → Nat} : rdI I t n w pl pn 75 9 = tdC I t n w pl pn := m_up2_eq
theorem rdI_wk {I : m_I} {t n pn : Nat} {w pl : Nat → Nat} : rdI I t n w pl pn 75 8 = wkG (peC I w) n := (m_up2_ne (by omega)).trans rpI_wk
theorem rdI_cl {I : m_I} {t n pn : Nat} {w pl : Nat → Nat} {p : Nat} (hp : p < pn) : rdI I t n w pl pn 78 p = clC I t n w pl p := by
  refine (m_up2_ne (by omega)).trans ?_
  unfold rpI clC
  rw [if_neg (by omega), if_pos ⟨rfl, hp⟩, if_neg (Nat.not_lt_zero p), rd1_ne (by decide) (Or.inl (by decide))]
theorem rdI_wr {I : m_I} {t n pn : Nat} {w pl : Nat → Nat} {p : Nat} (hp : p < pn) : rdI I t n w pl pn 79 p = wrC I t n w pl p := by
  refine (m_up2_ne (by omega)).trans ?_
  unfold rpI wrC
  rw [if_neg (by omega), if_neg (by omega), if_pos ⟨rfl, hp⟩, if_neg (Nat.not_lt_zero p), rd1_ne (by decide) (Or.inl (by decide))]
/-- so many people -/
def Pn (I : m_I) (pn : Nat) : Prop := I 65 4 = nI pn ∧ pn ≤ 8
theorem tdG_cong {ch : Int32} {cl cl' wr wr' : Nat → Int32} {k : Nat} (h : ∀ p, p < k → cl p = cl' p ∧ wr p = wr' p) : tdG ch cl wr k = tdG ch cl' wr' k := by
  induction k with
  | zero => rfl
  | succ k ih =>
    unfold tdG
    rw [ih (fun p hp => h p (by omega)), (h k (by omega)).1, (h k (by omega)).2]
theorem k_read {S : m_S} {I : m_I} {lg : Int64} {d t n pn : Nat} {w pl : Nat → Nat} (hd : 3 ≤ d) (hD : DyC I t n w pl) (hP : Pn I pn) : m_R S M_X1_read d [.ref 75, .ref (dyI t)] (hh I lg) none (hh (rdI I t n w pl pn) lg) := by
  have hD0 := hD
  obtain ⟨ht, hn, hn2, hw, hp⟩ := hD
  obtain ⟨hP1, hP2⟩ := hP
  have e1 : ∀ a b, a ≠ 76 ∧ a ≠ 77 ∧ a ≠ 75 → rd1 I t n w pl a b = I a b := fun a b h => rd1_ne ⟨h.1, h.2.1⟩ (Or.inl h.2.2)
  have h2 : m_R S M_X1_readPeople (d - 1) [.ref 75, .ref (dyI t)] (hh (rd1 I t n w pl) lg) none (hh (rpI (rd1 I t n w pl) (peC I w) (bgC I t w pl) (enC I t w pl) (fun p => I 68 p) pn n 0) lg) := by
    refine k_readPeople (w := w) (by omega) ht ?_ hn2 (fun j hj => ?_) ?_ hP2 (fun j hj => ?_) (fun j hj => ⟨?_, ?_⟩) (fun p hp => ?_)
    · rw [e1 _ _ (by unfold dyI; omega)]; exact hn
    · rw [e1 _ _ (by unfold rwI; omega)]; exact hw j hj
    · rw [e1 _ _ (by decide)]; exact hP1
    · have := (hw j hj).2
      rw [e1 _ _ (by unfold scI; omega)]; rfl
    · exact (m_up2_ne (by omega)).trans (if_pos ⟨rfl, hj⟩)
    · exact (m_up2_ne (by omega)).trans ((if_neg (by omega)).trans (if_pos ⟨rfl, hj⟩))
    · exact e1 _ _ (by decide)
  have h3 : m_R S M_X1_readChildren (d - 1) [.ref 75] (hh (rpI (rd1 I t n w pl) (peC I w) (bgC I t w pl) (enC I t w pl) (fun p => I 68 p) pn n 0) lg) none (hh (rdI I t n w pl pn) lg) := by
    have h9 := k_readChildren (S := S) (lg := lg) (I := rpI (rd1 I t n w pl) (peC I w) (bgC I t w pl) (enC I t w pl) (fun p => I 68 p) pn n 0) (d := d - 1) (pn := pn) (cl := clC I t n w pl) (wr := wrC I t n w pl) (by omega) ((rpI_ne (by decide) (Or.inl (by decide))).trans ((e1 _ _ (by decide)).trans hP1)) hP2 (fun p hp => ⟨?_, ?_⟩)
    · rw [rpI_wk, rpI_ne (by decide) (Or.inl (by decide)), e1 _ _ (by decide)] at h9
      exact h9
    · exact (m_up2_ne (f := rpI (rd1 I t n w pl) (peC I w) (bgC I t w pl) (enC I t w pl) (fun p => I 68 p) pn n 0) (i := 75) (k := 9) (x := tdC I t n w pl pn) (by omega)).symm.trans (rdI_cl hp)
    · exact (m_up2_ne (f := rpI (rd1 I t n w pl) (peC I w) (bgC I t w pl) (enC I t w pl) (fun p => I 68 p) pn n 0) (i := 75) (k := 9) (x := tdC I t n w pl pn) (by omega)).symm.trans (rdI_wr hp)
  refine ms_aload_n dX1_read_0 rfl ?_
  refine ms_aload_n dX1_read_1 rfl ?_
  refine qRV1 dX1_read_2 kX1_40 (by show _ < 178; first | decide | exact lt_sc (by omega) | exact lt_dy (by omega)) (by show (sh0 _).1 = _; first | rfl | rw [sh_sc (by omega)] | rw [sh_dy (by omega)]) (d := d - 1) (by show d - 1 + 1 ≤ d; omega) rfl (Nat.le_of_ble_eq_true rfl) (Nat.le_of_ble_eq_true rfl) (k_readRow (by omega) hD0) rfl ?_
  refine ms_aload_n dX1_read_5 rfl ?_
  refine ms_aload_n dX1_read_6 rfl ?_
  refine qRV1 dX1_read_7 kX1_44 (by show _ < 178; first | decide | exact lt_sc (by omega) | exact lt_dy (by omega)) (by show (sh0 _).1 = _; first | rfl | rw [sh_sc (by omega)] | rw [sh_dy (by omega)]) (d := d - 1) (by show d - 1 + 1 ≤ d; omega) rfl (Nat.le_of_ble_eq_true rfl) (Nat.le_of_ble_eq_true rfl) (h2) rfl ?_
  refine ms_aload_n dX1_read_10 rfl ?_
  refine qRV0 dX1_read_11 kX1_47 (by show _ < 178; first | decide | exact lt_sc (by omega) | exact lt_dy (by omega)) (by show (sh0 _).1 = _; first | rfl | rw [sh_sc (by omega)] | rw [sh_dy (by omega)]) (d := d - 1) (by show d - 1 + 1 ≤ d; omega)  (Nat.le_of_ble_eq_true rfl) (Nat.le_of_ble_eq_true rfl) (h3) rfl ?_
  refine ms_vret dX1_read_14 rfl rfl ⟨rfl, ?_⟩
  · rfl
/-! the board: what is told of a day, of a person -/
def dbC (I : m_I) (i : Nat) (dy : Int32) : Bool := decide (¬ I (scI i) 11 = 0 ∨ ¬ I (scI i) 12 = 0 ∨ (¬ I (scI i) 15 = -1 ∧ I (scI i) 15 < dy))
theorem k_isDone {S : m_S} {I : m_I} {lg : Int64} {d i : Nat} (hi : i < 20) (dy : Int32) : m_R S M_X0_isDoneBefore d [.ref (scI i), .int dy] (hh I lg) (some (.int (bi (dbC I i dy)))) (hh I lg) := by
  refine ms_aload_n dX0_isDoneBefore_0 rfl ?_
  refine q_geti dX0_isDoneBefore_1 fX0_150 (by rw [kd_8_11]; decide) (by first | decide | exact lt_sc (by omega) | exact lt_dy (by omega) | exact lt_rw (by omega) | exact lt_wa (by omega) | exact lt_le (by omega)) (by first | rfl | rw [sh_sc (by omega)] | rw [sh_dy (by omega)]) (by first | assumption | ((repeat ((with_reducible apply m_up2_tr); · first | omega | (intro z; (try unfold scI at z); (try unfold dyI at z); (try unfold rwI at z); (try unfold waI at z); (try unfold leI at z); omega))); first | assumption | exact m_up2_eq | rfl)) ?_
  refine ms_if_ne (tgt := 30) dX0_isDoneBefore_4 (by decide) (fun c4 => ?_) (fun c4 => ?_)
  · refine ms_iconst (v := nI 1) dX0_isDoneBefore_30 (by decide) ?_
    refine ms_goto (tgt := 35) dX0_isDoneBefore_31 (by decide) ?_
    refine ms_zret dX0_isDoneBefore_35 rfl rfl (by first | exact Or.inl (by decide) | exact Or.inr (by decide) | assumption | exact bi_01 _) ⟨?_, ?_⟩
    · rw [show dbC I i dy = true from decide_eq_true (Or.inl c4)]; rfl
    · rfl
  · refine ms_aload_n dX0_isDoneBefore_7 rfl ?_
    refine q_geti dX0_isDoneBefore_8 fX0_82 (by rw [kd_8_12]; decide) (by first | decide | exact lt_sc (by omega) | exact lt_dy (by omega) | exact lt_rw (by omega) | exact lt_wa (by omega) | exact lt_le (by omega)) (by first | rfl | rw [sh_sc (by omega)] | rw [sh_dy (by omega)]) (by first | assumption | ((repeat ((with_reducible apply m_up2_tr); · first | omega | (intro z; (try unfold scI at z); (try unfold dyI at z); (try unfold rwI at z); (try unfold waI at z); (try unfold leI at z); omega))); first | assumption | exact m_up2_eq | rfl)) ?_
    refine ms_if_ne (tgt := 30) dX0_isDoneBefore_11 (by decide) (fun c11 => ?_) (fun c11 => ?_)
    · refine ms_iconst (v := nI 1) dX0_isDoneBefore_30 (by decide) ?_
      refine ms_goto (tgt := 35) dX0_isDoneBefore_31 (by decide) ?_
      refine ms_zret dX0_isDoneBefore_35 rfl rfl (by first | exact Or.inl (by decide) | exact Or.inr (by decide) | assumption | exact bi_01 _) ⟨?_, ?_⟩
      · rw [show dbC I i dy = true from decide_eq_true (Or.inr (Or.inl c11))]; rfl
      · rfl
    · refine ms_aload_n dX0_isDoneBefore_14 rfl ?_
      refine q_geti dX0_isDoneBefore_15 fX0_63 (by rw [kd_8_15]; decide) (by first | decide | exact lt_sc (by omega) | exact lt_dy (by omega) | exact lt_rw (by omega) | exact lt_wa (by omega) | exact lt_le (by omega)) (by first | rfl | rw [sh_sc (by omega)] | rw [sh_dy (by omega)]) (by first | assumption | ((repeat ((with_reducible apply m_up2_tr); · first | omega | (intro z; (try unfold scI at z); (try unfold dyI at z); (try unfold rwI at z); (try unfold waI at z); (try unfold leI at z); omega))); first | assumption | exact m_up2_eq | rfl)) ?_
      refine ms_iconst (v := -1) dX0_isDoneBefore_18 (by decide) ?_
      refine ms_icmp_eq (tgt := 34) dX0_isDoneBefore_19 (by decide) (fun c19 => ?_) (fun c19 => ?_)
      · refine ms_iconst (v := nI 0) dX0_isDoneBefore_34 (by decide) ?_
        refine ms_zret dX0_isDoneBefore_35 rfl rfl (by first | exact Or.inl (by decide) | exact Or.inr (by decide) | assumption | exact bi_01 _) ⟨?_, ?_⟩
        · rw [show dbC I i dy = false from decide_eq_false (fun z => z.elim (fun y => y c4) (fun z => z.elim (fun y => y c11) (fun y => y.1 c19)))]; rfl
        · rfl
      · refine ms_aload_n dX0_isDoneBefore_22 rfl ?_
        refine q_geti dX0_isDoneBefore_23 fX0_63 (by rw [kd_8_15]; decide) (by first | decide | exact lt_sc (by omega) | exact lt_dy (by omega) | exact lt_rw (by omega) | exact lt_wa (by omega) | exact lt_le (by omega)) (by first | rfl | rw [sh_sc (by omega)] | rw [sh_dy (by omega)]) (by first | assumption | ((repeat ((with_reducible apply m_up2_tr); · first | omega | (intro z; (try unfold scI at z); (try unfold dyI at z); (try unfold rwI at z); (try unfold waI at z); (try unfold leI at z); omega))); first | assumption | exact m_up2_eq | rfl)) ?_
        refine ms_iload_n dX0_isDoneBefore_26 rfl ?_
        refine ms_icmp_ge (tgt := 34) dX0_isDoneBefore_27 (by decide) (fun c27 => ?_) (fun c27 => ?_)
        · refine ms_iconst (v := nI 0) dX0_isDoneBefore_34 (by decide) ?_
          refine ms_zret dX0_isDoneBefore_35 rfl rfl (by first | exact Or.inl (by decide) | exact Or.inr (by decide) | assumption | exact bi_01 _) ⟨?_, ?_⟩
          · rw [show dbC I i dy = false from decide_eq_false (fun z => z.elim (fun y => y c4) (fun z => z.elim (fun y => y c11) (fun y => (Int32.not_lt.mpr c27) y.2)))]; rfl
          · rfl
        · refine ms_iconst (v := nI 1) dX0_isDoneBefore_30 (by decide) ?_
          refine ms_goto (tgt := 35) dX0_isDoneBefore_31 (by decide) ?_
          refine ms_zret dX0_isDoneBefore_35 rfl rfl (by first | exact Or.inl (by decide) | exact Or.inr (by decide) | assumption | exact bi_01 _) ⟨?_, ?_⟩
          · rw [show dbC I i dy = true from decide_eq_true (Or.inr (Or.inr ⟨c19, Int32.not_le.mp c27⟩))]; rfl
          · rfl
def ahG (w : Nat → Nat) : Nat → Int32
  | 0 => nI 0
  | k + 1 => ahG w k ||| (nI 1 <<< (nI (w k) &&& 31))
def eaP (I : m_I) (w : Nat → Nat) (s at' i : Nat) : Bool := bt (I (scI s) 5 &&& (ahG w at' ^^^ (-1))) i && !dbC I i (I (scI s) 15)
def eaC (I : m_I) (w : Nat → Nat) (s at' m : Nat) : Bool := anyB (eaP I w s at') m
theorem k_isTooEarly {S : m_S} {I : m_I} {lg : Int64} {d t at' s m : Nat} {w : Nat → Nat} (hd : 2 ≤ d) (ht : t < 30) (ha : at' ≤ 8) (hs : s < 20) (hm : I 1 3 = nI m) (hm2 : m ≤ 20) (hw : ∀ j, j < at' → I (rwI t) j = nI (w j) ∧ w j < 20) : m_R S M_X0_isTooEarly d [.ref 72, .ref (scI s), .ref (rwI t), .int (nI at')] (hh I lg) (some (.int (bi (eaC I w s at' m)))) (hh I lg) := by
  have loop2 : ∀ (q k : Nat) (hf : anyB (eaP I w s at') k = false), k ≤ m → m - k < q → m_W S (M_X0_isTooEarly, d, fun w9 g9 => w9 = some (.int (bi (eaC I w s at' m))) ∧ g9 = hh (I) lg, fun _ _ => False) 32 [some (.ref 72), some (.ref (scI s)), some (.ref (rwI t)), some (.int (nI at')), some (.int (ahG w at')), some (.int (nI k))] [] (hh (I) lg) 0 0 := by
    intro q
    induction q with
    | zero => intro k hf _ h; omega
    | succ q ih =>
      intro k hf hk hq
      refine ms_iload dX0_isTooEarly_32 rfl ?_
      refine ms_aload_n dX0_isTooEarly_34 rfl ?_
      refine q_getr dX0_isTooEarly_35 fX0_24 kd_0_0 (by first | decide | exact lt_sc (by omega) | exact lt_dy (by omega) | exact lt_rw (by omega) | exact lt_wa (by omega) | exact lt_le (by omega)) (by first | rfl | rw [sh_sc (by omega)] | rw [sh_dy (by omega)]) (by first | rfl | exact rf_wa (by omega) | exact rf_le (by omega) | exact rf_rw (by omega)) ?_
      refine q_geti dX0_isTooEarly_38 fX0_140 (by rw [kd_9_3]; decide) (by first | decide | exact lt_sc (by omega) | exact lt_dy (by omega) | exact lt_rw (by omega) | exact lt_wa (by omega) | exact lt_le (by omega)) (by first | rfl | rw [sh_sc (by omega)] | rw [sh_dy (by omega)]) (by first | assumption | ((repeat ((with_reducible apply m_up2_tr); · first | omega | (intro z; (try unfold scI at z); (try unfold dyI at z); (try unfold rwI at z); (try unfold waI at z); (try unfold leI at z); omega))); first | assumption | exact m_up2_eq | rfl)) ?_
      refine n_icmp_ge (tgt := 89) dX0_isTooEarly_41 (by decide) (by omega) (by omega) (fun c41 => ?_) (fun c41 => ?_)
      · obtain rfl : k = m := by omega
        refine ms_iconst (v := nI 0) dX0_isTooEarly_89 (by decide) ?_
        refine ms_zret dX0_isTooEarly_90 rfl rfl (by first | exact Or.inl (by decide) | exact Or.inr (by decide) | assumption | exact bi_01 _) ⟨?_, ?_⟩
        · unfold eaC; rw [hf]; rfl
        · rfl
      · refine ms_aload_n dX0_isTooEarly_44 rfl ?_
        refine q_geti dX0_isTooEarly_45 fX0_143 (by rw [kd_8_5]; decide) (by first | decide | exact lt_sc (by omega) | exact lt_dy (by omega) | exact lt_rw (by omega) | exact lt_wa (by omega) | exact lt_le (by omega)) (by first | rfl | rw [sh_sc (by omega)] | rw [sh_dy (by omega)]) rfl ?_
        refine ms_iload dX0_isTooEarly_48 rfl ?_
        refine ms_iconst (v := -1) dX0_isTooEarly_50 (by decide) ?_
        refine ms_ixor dX0_isTooEarly_51 ?_
        refine ms_iand dX0_isTooEarly_52 ?_
        refine ms_iload dX0_isTooEarly_53 rfl ?_
        refine qRN2 dX0_isTooEarly_55 kX0_46 (d := d - 1) (by show d - 1 + 1 ≤ d; omega) rfl rfl (Nat.le_of_ble_eq_true rfl) (Nat.le_of_ble_eq_true rfl) (k_hasBit (b := k) _ (by omega)) rfl ?_
        refine ms_if_eq (tgt := 83) dX0_isTooEarly_58 (by decide) (fun c58 => ?_) (fun c58 => ?_)
        · have e : eaP I w s at' k = false := by unfold eaP; rw [bi_0.mp c58]; rfl
          refine n_iinc dX0_isTooEarly_83 rfl ?_
          refine ms_goto (tgt := 32) dX0_isTooEarly_86 (by decide) ?_
          exact ih (k + 1) (by unfold anyB; rw [hf, e]; rfl) (by omega) (by omega)
        · refine ms_aload_n dX0_isTooEarly_61 rfl ?_
          refine q_getr dX0_isTooEarly_62 fX0_24 kd_0_0 (by first | decide | exact lt_sc (by omega) | exact lt_dy (by omega) | exact lt_rw (by omega) | exact lt_wa (by omega) | exact lt_le (by omega)) (by first | rfl | rw [sh_sc (by omega)] | rw [sh_dy (by omega)]) (by first | rfl | exact rf_wa (by omega) | exact rf_le (by omega) | exact rf_rw (by omega)) ?_
          refine q_getr dX0_isTooEarly_65 fX0_57 kd_9_0 (by first | decide | exact lt_sc (by omega) | exact lt_dy (by omega) | exact lt_rw (by omega) | exact lt_wa (by omega) | exact lt_le (by omega)) (by first | rfl | rw [sh_sc (by omega)] | rw [sh_dy (by omega)]) (by first | rfl | exact rf_wa (by omega) | exact rf_le (by omega) | exact rf_rw (by omega)) ?_
          refine ms_iload dX0_isTooEarly_68 rfl ?_
          refine q_aald dX0_isTooEarly_70 (by first | exact Or.inl ⟨rfl, by omega, rfl⟩ | exact Or.inr ⟨rfl, by omega, rfl⟩) ?_
          refine ms_aload_n dX0_isTooEarly_71 rfl ?_
          refine q_geti dX0_isTooEarly_72 fX0_63 (by rw [kd_8_15]; decide) (by first | decide | exact lt_sc (by omega) | exact lt_dy (by omega) | exact lt_rw (by omega) | exact lt_wa (by omega) | exact lt_le (by omega)) (by first | rfl | rw [sh_sc (by omega)] | rw [sh_dy (by omega)]) rfl ?_
          refine qRS2 dX0_isTooEarly_75 kX0_146 (d := d - 1) (by show d - 1 + 1 ≤ d; omega) rfl rfl (Nat.le_of_ble_eq_true rfl) (Nat.le_of_ble_eq_true rfl) (k_isDone (i := k) (by omega) _) rfl ?_
          refine ms_if_ne (tgt := 83) dX0_isTooEarly_78 (by decide) (fun c78 => ?_) (fun c78 => ?_)
          · have e : eaP I w s at' k = false := by unfold eaP; rw [bi_n0.mp c78, Bool.not_true, Bool.and_false]
            refine n_iinc dX0_isTooEarly_83 rfl ?_
            refine ms_goto (tgt := 32) dX0_isTooEarly_86 (by decide) ?_
            exact ih (k + 1) (by unfold anyB; rw [hf, e]; rfl) (by omega) (by omega)
          · have e : anyB (eaP I w s at') m = true := anyB_t (k := k) (by omega) (by unfold eaP; rw [bi_n0.mp c58, bi_0.mp c78]; rfl)
            refine ms_iconst (v := nI 1) dX0_isTooEarly_81 (by decide) ?_
            refine ms_zret dX0_isTooEarly_82 rfl rfl (by first | exact Or.inl (by decide) | exact Or.inr (by decide) | assumption | exact bi_01 _) ⟨?_, ?_⟩
            · unfold eaC; rw [e]; rfl
            · rfl
  have loop1 : ∀ (q k : Nat), k ≤ at' → at' - k < q → m_W S (M_X0_isTooEarly, d, fun w9 g9 => w9 = some (.int (bi (eaC I w s at' m))) ∧ g9 = hh (I) lg, fun _ _ => False) 6 [some (.ref 72), some (.ref (scI s)), some (.ref (rwI t)), some (.int (nI at')), some (.int (ahG w k)), some (.int (nI k))] [] (hh (I) lg) 0 0 := by
    intro q
    induction q with
    | zero => intro k  _ h; omega
    | succ q ih =>
      intro k  hk hq
      refine ms_iload dX0_isTooEarly_6 rfl ?_
      refine ms_iload_n dX0_isTooEarly_8 rfl ?_
      refine n_icmp_ge (tgt := 29) dX0_isTooEarly_9 (by decide) (by omega) (by omega) (fun c9 => ?_) (fun c9 => ?_)
      · obtain rfl : k = at' := by omega
        refine ms_iconst (v := nI 0) dX0_isTooEarly_29 (by decide) ?_
        refine ms_istore dX0_isTooEarly_30 (Nat.le_of_ble_eq_true rfl) ?_
        exact loop2 (m + 1) 0 rfl (by omega) (by omega)
      · obtain ⟨hw1, hw2⟩ := hw k (by omega)
        refine ms_iload dX0_isTooEarly_12 rfl ?_
        refine ms_iconst (v := nI 1) dX0_isTooEarly_14 (by decide) ?_
        refine ms_aload_n dX0_isTooEarly_15 rfl ?_
        refine ms_iload dX0_isTooEarly_16 rfl ?_
        refine q_iald dX0_isTooEarly_18 (by first | decide | exact lt_sc (by omega) | exact lt_dy (by omega) | exact lt_rw (by omega) | exact lt_wa (by omega) | exact lt_le (by omega)) (by first | rfl | exact sh_rw (by omega) | exact sh_wa (by omega) | exact sh_le (by omega)) (by omega) (by decide) (by first | assumption | ((repeat ((with_reducible apply m_up2_tr); · first | omega | (intro z; (try unfold scI at z); (try unfold dyI at z); (try unfold rwI at z); (try unfold waI at z); (try unfold leI at z); omega))); first | assumption | exact m_up2_eq | rfl)) ?_
        refine ms_ishl dX0_isTooEarly_19 ?_
        refine ms_ior dX0_isTooEarly_20 ?_
        refine ms_istore dX0_isTooEarly_21 (Nat.le_of_ble_eq_true rfl) ?_
        refine n_iinc dX0_isTooEarly_23 rfl ?_
        refine ms_goto (tgt := 6) dX0_isTooEarly_26 (by decide) ?_
        exact ih (k + 1) (by omega) (by omega)
  refine ms_iconst (v := nI 0) dX0_isTooEarly_0 (by decide) ?_
  refine ms_istore dX0_isTooEarly_1 (Nat.le_of_ble_eq_true rfl) ?_
  refine ms_iconst (v := nI 0) dX0_isTooEarly_3 (by decide) ?_
  refine ms_istore dX0_isTooEarly_4 (Nat.le_of_ble_eq_true rfl) ?_
  exact loop1 (at' + 1) 0 (by omega) (by omega)

