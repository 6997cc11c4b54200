/-! the people of a day -/
/-- who works in the first k scenes, as bits -/
def wkG (pe : Nat → Int32) : Nat → Int32
  | 0 => nI 0
  | k + 1 => wkG pe k ||| pe k
/-- the call, the wrap of a person behind k scenes; x where they don't work -/
def clG (pe bg : Nat → Int32) (pr x : Int32) (p : Nat) : Nat → Int32
  | 0 => x
  | k + 1 => if bt (pe k) p = true ∧ bt (wkG pe k) p = false then bg k - pr else clG pe bg pr x p k
def wrG (pe en : Nat → Int32) (x : Int32) (p : Nat) : Nat → Int32
  | 0 => x
  | k + 1 => if bt (pe k) p = true then en k else wrG pe en x p k
/-- the children whose day is too long, among the first n, as bits -/
def tdG (ch : Int32) (cl wr : Nat → Int32) : Nat → Int32
  | 0 => nI 0
  | p + 1 => if bt ch p = true ∧ nI 480 < wr p - cl p then tdG ch cl wr p ||| (nI 1 <<< (nI p &&& 31)) else tdG ch cl wr p
/-- in the k-th scene, behind p people of pn -/
def rpI (I : m_I) (pe bg en pr : Nat → Int32) (pn k p : Nat) : m_I := fun a b => if a = 75 ∧ b = 8 then wkG pe k else if a = 78 ∧ b < pn then clG pe bg (pr b) (I 78 b) b (if b < p then k + 1 else k) else if a = 79 ∧ b < pn then wrG pe en (I 79 b) b (if b < p then k + 1 else k) else I a b
theorem rpI_ne {I : m_I} {pe bg en pr : Nat → Int32} {pn k p a b : Nat} (h : a ≠ 78 ∧ a ≠ 79) (h2 : a ≠ 75 ∨ b ≠ 8) : rpI I pe bg en pr pn k p a b = I a b := by
  unfold rpI
  rw [if_neg (by omega), if_neg (by omega), if_neg (by omega)]
theorem rpI_wk {I : m_I} {pe bg en pr : Nat → Int32} {pn k p : Nat} : rpI I pe bg en pr pn k p 75 8 = wkG pe k := if_pos ⟨rfl, rfl⟩
theorem rpI_row {I : m_I} {pe bg en pr : Nat → Int32} {pn k : Nat} : m_up2 (rpI I pe bg en pr pn k pn) 75 8 (wkG pe k ||| pe k) = rpI I pe bg en pr pn (k + 1) 0 := by
  funext a b
  unfold m_up2 rpI
  by_cases h1 : a = 75 ∧ b = 8
  · rw [if_pos h1, if_pos h1]; rfl
  · rw [if_neg h1, if_neg h1, if_neg h1]
    by_cases h2 : a = 78 ∧ b < pn
    · rw [if_pos h2, if_pos h2, if_pos h2.2, if_neg (by omega)]
    · rw [if_neg h2, if_neg h2]
      by_cases h3 : a = 79 ∧ b < pn
      · rw [if_pos h3, if_pos h3, if_pos h3.2, if_neg (by omega)]
      · rw [if_neg h3, if_neg h3]
theorem rpI_no {I : m_I} {pe bg en pr : Nat → Int32} {pn k p : Nat} (h : bt (pe k) p = false) : rpI I pe bg en pr pn k (p + 1) = rpI I pe bg en pr pn k p := by
  funext a b
  unfold rpI
  by_cases h1 : a = 75 ∧ b = 8
  · rw [if_pos h1, if_pos h1]
  · rw [if_neg h1, if_neg h1]
    by_cases hb : b = p
    · subst hb
      have e1 : ∀ x, clG pe bg (pr b) x b (k + 1) = clG pe bg (pr b) x b k := fun x => if_neg (fun z => by rw [h] at z; cases z.1)
      have e2 : ∀ x, wrG pe en x b (k + 1) = wrG pe en x b k := fun x => if_neg (fun z => by rw [h] at z; cases z)
      rw [if_pos (show b < b + 1 by omega), if_neg (show ¬ b < b by omega), e1, e2]
    · by_cases hb2 : b < p
      · rw [if_pos hb2, if_pos (show b < p + 1 by omega)]
      · rw [if_neg hb2, if_neg (show ¬ b < p + 1 by omega)]
theorem rpI_cl {I : m_I} {pe bg en pr : Nat → Int32} {pn k p : Nat} (hp : p < pn) (h : bt (pe k) p = true) (h2 : bt (wkG pe k) p = false) : m_up2 (m_up2 (rpI I pe bg en pr pn k p) 78 p (bg k - pr p)) 79 p (en k) = rpI I pe bg en pr pn k (p + 1) := by
  funext a b
  unfold m_up2 rpI
  by_cases hb : b = p
  · subst hb
    have e1 : ∀ x, clG pe bg (pr b) x b (k + 1) = bg k - pr b := fun x => if_pos ⟨h, h2⟩
    have e2 : ∀ x, wrG pe en x b (k + 1) = en k := fun x => if_pos h
    rw [if_pos (show b < b + 1 by omega), e1, e2]
    by_cases h1 : a = 79
    · subst h1
      rw [if_pos ⟨rfl, rfl⟩, if_neg (by omega), if_neg (by omega), if_pos ⟨rfl, hp⟩]
    · rw [if_neg (fun z => h1 z.1)]
      by_cases h3 : a = 78
      · subst h3
        rw [if_pos ⟨rfl, rfl⟩, if_neg (by omega), if_pos ⟨rfl, hp⟩]
      · rw [if_neg (fun z => h3 z.1)]
        by_cases h4 : a = 75 ∧ b = 8
        · rw [if_pos h4, if_pos h4]
        · simp [h1, h3, h4]
  · rw [if_neg (fun z => hb z.2), if_neg (fun z => hb z.2)]
    by_cases hb2 : b < p
    · rw [if_pos hb2, if_pos (show b < p + 1 by omega)]
    · rw [if_neg hb2, if_neg (show ¬ b < p + 1 by omega)]
theorem rpI_wr {I : m_I} {pe bg en pr : Nat → Int32} {pn k p : Nat} (hp : p < pn) (h : bt (pe k) p = true) (h2 : bt (wkG pe k) p = true) : m_up2 (rpI I pe bg en pr pn k p) 79 p (en k) = rpI I pe bg en pr pn k (p + 1) := by
  funext a b
  unfold m_up2 rpI
  by_cases hb : b = p
  · subst hb
    have e1 : ∀ x, clG pe bg (pr b) x b (k + 1) = clG pe bg (pr b) x b k := fun x => if_neg (fun z => by rw [h2] at z; cases z.2)
    have e2 : ∀ x, wrG pe en x b (k + 1) = en k := fun x => if_pos h
    rw [if_pos (show b < b + 1 by omega), if_neg (show ¬ b < b by omega), e1, e2]
    by_cases h1 : a = 79
    · subst h1
      rw [if_pos ⟨rfl, rfl⟩, if_neg (by omega), if_neg (by omega), if_pos ⟨rfl, hp⟩]
    · rw [if_neg (fun z => h1 z.1)]
      by_cases h4 : a = 75 ∧ b = 8
      · rw [if_pos h4, if_pos h4]
      · rw [if_neg h4, if_neg h4]
        by_cases h5 : a = 78 ∧ b < pn
        · rw [if_pos h5, if_pos h5]
        · rw [if_neg h5, if_neg h5, if_neg (fun z => h1 z.1), if_neg (fun z => h1 z.1)]
  · rw [if_neg (fun z => hb z.2)]
    by_cases hb2 : b < p
    · rw [if_pos hb2, if_pos (show b < p + 1 by omega)]
    · rw [if_neg hb2, if_neg (show ¬ b < p + 1 by omega)]
theorem k_readPeople {S : m_S} {I : m_I} {lg : Int64} {d t n pn : Nat} {w : Nat → Nat} {pe bg en pr : Nat → Int32} (hd : 2 ≤ d) (ht : t < 30) (hn : I (dyI t) 6 = nI n) (hn2 : n ≤ 8) (hw : ∀ j, j < n → I (rwI t) j = nI (w j) ∧ w j < 20) (hpn : I 65 4 = nI pn) (hpn2 : pn ≤ 8)
    (hpe : ∀ j, j < n → I (scI (w j)) 4 = pe j) (hbg : ∀ j, j < n → I 76 j = bg j ∧ I 77 j = en j) (hpr : ∀ p, p < pn → I 68 p = pr p) : m_R S M_X1_readPeople d [.ref 75, .ref (dyI t)] (hh I lg) none (hh (rpI I pe bg en pr pn n 0) lg) := by
  have hdy : ∀ k p b, rpI I pe bg en pr pn k p (dyI t) b = I (dyI t) b := fun k p b => rpI_ne (by unfold dyI; omega) (Or.inl (by unfold dyI; omega))
  have hrw : ∀ k p b, rpI I pe bg en pr pn k p (rwI t) b = I (rwI t) b := fun k p b => rpI_ne (by unfold rwI; omega) (Or.inl (by unfold rwI; omega))
  have hsc : ∀ k p s b, s < 20 → rpI I pe bg en pr pn k p (scI s) b = I (scI s) b := fun k p s b hs => rpI_ne (by unfold scI; omega) (Or.inl (by unfold scI; omega))
  have inner : ∀ (k : Nat) (_ : k < n) (kk : ∀ d4, m_W S (M_X1_readPeople, d, fun w9 g => w9 = none ∧ g = hh (rpI I pe bg en pr pn n 0) lg, fun _ _ => False) 115 [some (.ref 75), some (.ref (dyI t)), some (.int (nI k)), some (.int (pe k)), d4] [] (hh (rpI I pe bg en pr pn k pn) lg) 0 0) (q p : Nat), p ≤ pn → pn - p < q → m_W S (M_X1_readPeople, d, fun w9 g => w9 = none ∧ g = hh (rpI I pe bg en pr pn n 0) lg, fun _ _ => False) 36 [some (.ref 75), some (.ref (dyI t)), some (.int (nI k)), some (.int (pe k)), some (.int (nI p))] [] (hh (rpI I pe bg en pr pn k p) lg) 0 0 := by
    intro k hk kk q
    induction q with
    | zero => intro p _ h; omega
    | succ q ih =>
      intro p hp hq
      have hpn' : rpI I pe bg en pr pn k p 65 4 = nI pn := (rpI_ne (by decide) (Or.inl (by decide))).trans hpn
      refine ms_iload dX1_readPeople_36 rfl ?_
      refine ms_aload_n dX1_readPeople_38 rfl ?_
      refine q_getr dX1_readPeople_39 fX1_28 kd_1_1 (by first | decide | exact lt_sc (by omega) | exact lt_dy (by omega) | exact lt_rw (by omega) | exact lt_wa (by omega) | exact lt_le (by omega)) (by first | rfl | rw [sh_sc (by omega)] | rw [sh_dy (by omega)]) (by first | rfl | exact rf_wa (by omega) | exact rf_le (by omega) | exact rf_rw (by omega)) ?_
      refine q_geti dX1_readPeople_42 fX1_103 (by rw [kd_2_4]; decide) (by first | decide | exact lt_sc (by omega) | exact lt_dy (by omega) | exact lt_rw (by omega) | exact lt_wa (by omega) | exact lt_le (by omega)) (by first | rfl | rw [sh_sc (by omega)] | rw [sh_dy (by omega)]) (by first | assumption | ((repeat ((with_reducible apply m_up2_tr); · first | omega | (intro z; (try unfold scI at z); (try unfold dyI at z); (try unfold rwI at z); (try unfold waI at z); (try unfold leI at z); omega))); first | assumption | exact m_up2_eq | rfl)) ?_
      refine n_icmp_ge (tgt := 115) dX1_readPeople_45 (by decide) (by omega) (by omega) (fun c45 => ?_) (fun c45 => ?_)
      · obtain rfl : p = pn := by omega
        exact kk _
      · have h9 := ih (p + 1) (by omega) (by omega)
        obtain ⟨hb1, hb2⟩ := hbg k hk
        have hb1' : rpI I pe bg en pr pn k p 76 k = bg k := (rpI_ne (by decide) (Or.inl (by decide))).trans hb1
        have hb2' : rpI I pe bg en pr pn k p 77 k = en k := (rpI_ne (by decide) (Or.inl (by decide))).trans hb2
        have hpr' : rpI I pe bg en pr pn k p 68 p = pr p := (rpI_ne (by decide) (Or.inl (by decide))).trans (hpr p (by omega))
        refine ms_iload_n dX1_readPeople_48 rfl ?_
        refine ms_iload dX1_readPeople_49 rfl ?_
        refine qRN2 dX1_readPeople_51 kX1_54 (d := d - 1) (by show d - 1 + 1 ≤ d; omega) rfl rfl (Nat.le_of_ble_eq_true rfl) (Nat.le_of_ble_eq_true rfl) (k_hasBit (b := p) _ (by omega)) rfl ?_
        refine ms_if_ne (tgt := 60) dX1_readPeople_54 (by decide) (fun c54 => ?_) (fun c54 => ?_)
        · have e := bi_n0.mp c54
          have hwk : rpI I pe bg en pr pn k p 75 8 = wkG pe k := rpI_wk
          refine ms_aload_n dX1_readPeople_60 rfl ?_
          refine q_geti dX1_readPeople_61 fX1_50 (by rw [kd_1_8]; decide) (by first | decide | exact lt_sc (by omega) | exact lt_dy (by omega) | exact lt_rw (by omega) | exact lt_wa (by omega) | exact lt_le (by omega)) (by first | rfl | rw [sh_sc (by omega)] | rw [sh_dy (by omega)]) (by first | assumption | ((repeat ((with_reducible apply m_up2_tr); · first | omega | (intro z; (try unfold scI at z); (try unfold dyI at z); (try unfold rwI at z); (try unfold waI at z); (try unfold leI at z); omega))); first | assumption | exact m_up2_eq | rfl)) ?_
          refine ms_iload dX1_readPeople_64 rfl ?_
          refine qRN2 dX1_readPeople_66 kX1_54 (d := d - 1) (by show d - 1 + 1 ≤ d; omega) rfl rfl (Nat.le_of_ble_eq_true rfl) (Nat.le_of_ble_eq_true rfl) (k_hasBit (b := p) _ (by omega)) rfl ?_
          refine ms_if_ne (tgt := 96) dX1_readPeople_69 (by decide) (fun c69 => ?_) (fun c69 => ?_)
          · rw [← rpI_wr (by omega) e (bi_n0.mp c69)] at h9
            refine ms_aload_n dX1_readPeople_96 rfl ?_
            refine q_getr dX1_readPeople_97 fX1_21 kd_1_7 (by first | decide | exact lt_sc (by omega) | exact lt_dy (by omega) | exact lt_rw (by omega) | exact lt_wa (by omega) | exact lt_le (by omega)) (by first | rfl | rw [sh_sc (by omega)] | rw [sh_dy (by omega)]) (by first | rfl | exact rf_wa (by omega) | exact rf_le (by omega) | exact rf_rw (by omega)) ?_
            refine ms_iload dX1_readPeople_100 rfl ?_
            refine ms_aload_n dX1_readPeople_102 rfl ?_
            refine q_getr dX1_readPeople_103 fX1_15 kd_1_5 (by first | decide | exact lt_sc (by omega) | exact lt_dy (by omega) | exact lt_rw (by omega) | exact lt_wa (by omega) | exact lt_le (by omega)) (by first | rfl | rw [sh_sc (by omega)] | rw [sh_dy (by omega)]) (by first | rfl | exact rf_wa (by omega) | exact rf_le (by omega) | exact rf_rw (by omega)) ?_
            refine ms_iload_n dX1_readPeople_106 rfl ?_
            refine q_iald dX1_readPeople_107 (by first | decide | exact lt_sc (by omega) | exact lt_dy (by omega) | exact lt_rw (by omega) | exact lt_wa (by omega) | exact lt_le (by omega)) (by first | rfl | exact sh_rw (by omega) | exact sh_wa (by omega) | exact sh_le (by omega)) (by omega) (by decide) (by first | assumption | ((repeat ((with_reducible apply m_up2_tr); · first | omega | (intro z; (try unfold scI at z); (try unfold dyI at z); (try unfold rwI at z); (try unfold waI at z); (try unfold leI at z); omega))); first | assumption | exact m_up2_eq | rfl)) ?_
            refine q_iast dX1_readPeople_108 (by first | decide | exact lt_sc (by omega) | exact lt_dy (by omega) | exact lt_rw (by omega) | exact lt_wa (by omega) | exact lt_le (by omega)) (by first | rfl | exact sh_rw (by omega) | exact sh_wa (by omega) | exact sh_le (by omega)) (by omega) (by decide) ?_
            refine n_iinc dX1_readPeople_109 rfl ?_
            refine ms_goto (tgt := 36) dX1_readPeople_112 (by decide) ?_
            exact h9
          · rw [← rpI_cl (by omega) e (bi_0.mp c69)] at h9
            refine ms_aload_n dX1_readPeople_72 rfl ?_
            refine q_getr dX1_readPeople_73 fX1_18 kd_1_6 (by first | decide | exact lt_sc (by omega) | exact lt_dy (by omega) | exact lt_rw (by omega) | exact lt_wa (by omega) | exact lt_le (by omega)) (by first | rfl | rw [sh_sc (by omega)] | rw [sh_dy (by omega)]) (by first | rfl | exact rf_wa (by omega) | exact rf_le (by omega) | exact rf_rw (by omega)) ?_
            refine ms_iload dX1_readPeople_76 rfl ?_
            refine ms_aload_n dX1_readPeople_78 rfl ?_
            refine q_getr dX1_readPeople_79 fX1_9 kd_1_4 (by first | decide | exact lt_sc (by omega) | exact lt_dy (by omega) | exact lt_rw (by omega) | exact lt_wa (by omega) | exact lt_le (by omega)) (by first | rfl | rw [sh_sc (by omega)] | rw [sh_dy (by omega)]) (by first | rfl | exact rf_wa (by omega) | exact rf_le (by omega) | exact rf_rw (by omega)) ?_
            refine ms_iload_n dX1_readPeople_82 rfl ?_
            refine q_iald dX1_readPeople_83 (by first | decide | exact lt_sc (by omega) | exact lt_dy (by omega) | exact lt_rw (by omega) | exact lt_wa (by omega) | exact lt_le (by omega)) (by first | rfl | exact sh_rw (by omega) | exact sh_wa (by omega) | exact sh_le (by omega)) (by omega) (by decide) (by first | assumption | ((repeat ((with_reducible apply m_up2_tr); · first | omega | (intro z; (try unfold scI at z); (try unfold dyI at z); (try unfold rwI at z); (try unfold waI at z); (try unfold leI at z); omega))); first | assumption | exact m_up2_eq | rfl)) ?_
            refine ms_aload_n dX1_readPeople_84 rfl ?_
            refine q_getr dX1_readPeople_85 fX1_28 kd_1_1 (by first | decide | exact lt_sc (by omega) | exact lt_dy (by omega) | exact lt_rw (by omega) | exact lt_wa (by omega) | exact lt_le (by omega)) (by first | rfl | rw [sh_sc (by omega)] | rw [sh_dy (by omega)]) (by first | rfl | exact rf_wa (by omega) | exact rf_le (by omega) | exact rf_rw (by omega)) ?_
            refine q_getr dX1_readPeople_88 fX1_106 kd_2_2 (by first | decide | exact lt_sc (by omega) | exact lt_dy (by omega) | exact lt_rw (by omega) | exact lt_wa (by omega) | exact lt_le (by omega)) (by first | rfl | rw [sh_sc (by omega)] | rw [sh_dy (by omega)]) (by first | rfl | exact rf_wa (by omega) | exact rf_le (by omega) | exact rf_rw (by omega)) ?_
            refine ms_iload dX1_readPeople_91 rfl ?_
            refine q_iald dX1_readPeople_93 (by first | decide | exact lt_sc (by omega) | exact lt_dy (by omega) | exact lt_rw (by omega) | exact lt_wa (by omega) | exact lt_le (by omega)) (by first | rfl | exact sh_rw (by omega) | exact sh_wa (by omega) | exact sh_le (by omega)) (by omega) (by decide) (by first | assumption | ((repeat ((with_reducible apply m_up2_tr); · first | omega | (intro z; (try unfold scI at z); (try unfold dyI at z); (try unfold rwI at z); (try unfold waI at z); (try unfold leI at z); omega))); first | assumption | exact m_up2_eq | rfl)) ?_
            refine ms_isub dX1_readPeople_94 ?_
            refine q_iast dX1_readPeople_95 (by first | decide | exact lt_sc (by omega) | exact lt_dy (by omega) | exact lt_rw (by omega) | exact lt_wa (by omega) | exact lt_le (by omega)) (by first | rfl | exact sh_rw (by omega) | exact sh_wa (by omega) | exact sh_le (by omega)) (by omega) (by decide) ?_
            refine ms_aload_n dX1_readPeople_96 rfl ?_
            refine q_getr dX1_readPeople_97 fX1_21 kd_1_7 (by first | decide | exact lt_sc (by omega) | exact lt_dy (by omega) | exact lt_rw (by omega) | exact lt_wa (by omega) | exact lt_le (by omega)) (by first | rfl | rw [sh_sc (by omega)] | rw [sh_dy (by omega)]) (by first | rfl | exact rf_wa (by omega) | exact rf_le (by omega) | exact rf_rw (by omega)) ?_
            refine ms_iload dX1_readPeople_100 rfl ?_
            refine ms_aload_n dX1_readPeople_102 rfl ?_
            refine q_getr dX1_readPeople_103 fX1_15 kd_1_5 (by first | decide | exact lt_sc (by omega) | exact lt_dy (by omega) | exact lt_rw (by omega) | exact lt_wa (by omega) | exact lt_le (by omega)) (by first | rfl | rw [sh_sc (by omega)] | rw [sh_dy (by omega)]) (by first | rfl | exact rf_wa (by omega) | exact rf_le (by omega) | exact rf_rw (by omega)) ?_
            refine ms_iload_n dX1_readPeople_106 rfl ?_
            refine q_iald dX1_readPeople_107 (by first | decide | exact lt_sc (by omega) | exact lt_dy (by omega) | exact lt_rw (by omega) | exact lt_wa (by omega) | exact lt_le (by omega)) (by first | rfl | exact sh_rw (by omega) | exact sh_wa (by omega) | exact sh_le (by omega)) (by omega) (by decide) (by first | assumption | ((repeat ((with_reducible apply m_up2_tr); · first | omega | (intro z; (try unfold scI at z); (try unfold dyI at z); (try unfold rwI at z); (try unfold waI at z); (try unfold leI at z); omega))); first | assumption | exact m_up2_eq | rfl)) ?_
            refine q_iast dX1_readPeople_108 (by first | decide | exact lt_sc (by omega) | exact lt_dy (by omega) | exact lt_rw (by omega) | exact lt_wa (by omega) | exact lt_le (by omega)) (by first | rfl | exact sh_rw (by omega) | exact sh_wa (by omega) | exact sh_le (by omega)) (by omega) (by decide) ?_
            refine n_iinc dX1_readPeople_109 rfl ?_
            refine ms_goto (tgt := 36) dX1_readPeople_112 (by decide) ?_
            exact h9
        · rw [rpI_no (bi_0.mp c54)] at h9
          refine ms_goto (tgt := 109) dX1_readPeople_57 (by decide) ?_
          refine n_iinc dX1_readPeople_109 rfl ?_
          refine ms_goto (tgt := 36) dX1_readPeople_112 (by decide) ?_
          exact h9
  have outer : ∀ (q k : Nat) (d3 d4 : Option Value), k ≤ n → n - k < q → m_W S (M_X1_readPeople, d, fun w9 g => w9 = none ∧ g = hh (rpI I pe bg en pr pn n 0) lg, fun _ _ => False) 7 [some (.ref 75), some (.ref (dyI t)), some (.int (nI k)), d3, d4] [] (hh (rpI I pe bg en pr pn k 0) lg) 0 0 := by
    intro q
    induction q with
    | zero => intro k _ _ _ h; omega
    | succ q ih =>
      intro k d3 d4 hk hq
      have hn' := (hdy k 0 6).trans hn
      refine ms_iload_n dX1_readPeople_7 rfl ?_
      refine ms_aload_n dX1_readPeople_8 rfl ?_
      refine q_geti dX1_readPeople_9 fX1_69 (by rw [kd_3_6]; decide) (by first | decide | exact lt_sc (by omega) | exact lt_dy (by omega) | exact lt_rw (by omega) | exact lt_wa (by omega) | exact lt_le (by omega)) (by first | rfl | rw [sh_sc (by omega)] | rw [sh_dy (by omega)]) (by first | assumption | ((repeat ((with_reducible apply m_up2_tr); · first | omega | (intro z; (try unfold scI at z); (try unfold dyI at z); (try unfold rwI at z); (try unfold waI at z); (try unfold leI at z); omega))); first | assumption | exact m_up2_eq | rfl)) ?_
      refine n_icmp_ge (tgt := 131) dX1_readPeople_12 (by decide) (by omega) (by omega) (fun c12 => ?_) (fun c12 => ?_)
      · obtain rfl : k = n := by omega
        refine ms_vret dX1_readPeople_131 rfl rfl ⟨rfl, ?_⟩
        · rfl
      · obtain ⟨hw1, hw2⟩ := hw k (by omega)
        have hw1' := (hrw k 0 k).trans hw1
        have hpe' := (hsc k 0 (w k) 4 hw2).trans (hpe k (by omega))
        refine ms_aload_n dX1_readPeople_15 rfl ?_
        refine q_getr dX1_readPeople_16 fX1_24 kd_1_0 (by first | decide | exact lt_sc (by omega) | exact lt_dy (by omega) | exact lt_rw (by omega) | exact lt_wa (by omega) | exact lt_le (by omega)) (by first | rfl | rw [sh_sc (by omega)] | rw [sh_dy (by omega)]) (by first | rfl | exact rf_wa (by omega) | exact rf_le (by omega) | exact rf_rw (by omega)) ?_
        refine q_getr dX1_readPeople_19 fX1_72 kd_9_0 (by first | decide | exact lt_sc (by omega) | exact lt_dy (by omega) | exact lt_rw (by omega) | exact lt_wa (by omega) | exact lt_le (by omega)) (by first | rfl | rw [sh_sc (by omega)] | rw [sh_dy (by omega)]) (by first | rfl | exact rf_wa (by omega) | exact rf_le (by omega) | exact rf_rw (by omega)) ?_
        refine ms_aload_n dX1_readPeople_22 rfl ?_
        refine q_getr dX1_readPeople_23 fX1_78 kd_3_5 (by first | decide | exact lt_sc (by omega) | exact lt_dy (by omega) | exact lt_rw (by omega) | exact lt_wa (by omega) | exact lt_le (by omega)) (by first | rfl | rw [sh_sc (by omega)] | rw [sh_dy (by omega)]) (by first | rfl | exact rf_wa (by omega) | exact rf_le (by omega) | exact rf_rw (by omega)) ?_
        refine ms_iload_n dX1_readPeople_26 rfl ?_
        refine q_iald dX1_readPeople_27 (by first | decide | exact lt_sc (by omega) | exact lt_dy (by omega) | exact lt_rw (by omega) | exact lt_wa (by omega) | exact lt_le (by omega)) (by first | rfl | exact sh_rw (by omega) | exact sh_wa (by omega) | exact sh_le (by omega)) (by omega) (by decide) (by first | assumption | ((repeat ((with_reducible apply m_up2_tr); · first | omega | (intro z; (try unfold scI at z); (try unfold dyI at z); (try unfold rwI at z); (try unfold waI at z); (try unfold leI at z); omega))); first | assumption | exact m_up2_eq | rfl)) ?_
        refine q_aald dX1_readPeople_28 (by first | exact Or.inl ⟨rfl, by omega, rfl⟩ | exact Or.inr ⟨rfl, by omega, rfl⟩) ?_
        refine q_geti dX1_readPeople_29 fX1_100 (by rw [kd_8_4]; decide) (by first | decide | exact lt_sc (by omega) | exact lt_dy (by omega) | exact lt_rw (by omega) | exact lt_wa (by omega) | exact lt_le (by omega)) (by first | rfl | rw [sh_sc (by omega)] | rw [sh_dy (by omega)]) (by first | assumption | ((repeat ((with_reducible apply m_up2_tr); · first | omega | (intro z; (try unfold scI at z); (try unfold dyI at z); (try unfold rwI at z); (try unfold waI at z); (try unfold leI at z); omega))); first | assumption | exact m_up2_eq | rfl)) ?_
        refine ms_istore_n dX1_readPeople_32 (Nat.le_of_ble_eq_true rfl) ?_
        refine ms_iconst (v := nI 0) dX1_readPeople_33 (by decide) ?_
        refine ms_istore dX1_readPeople_34 (Nat.le_of_ble_eq_true rfl) ?_
        refine inner k (by omega) (fun d4 => ?_) (pn + 1) 0 (by omega) (by omega)
        have hwk : rpI I pe bg en pr pn k pn 75 8 = wkG pe k := rpI_wk
        refine ms_aload_n dX1_readPeople_115 rfl ?_
        refine ms_dup dX1_readPeople_116 rfl ?_
        refine q_geti dX1_readPeople_117 fX1_50 (by rw [kd_1_8]; decide) (by first | decide | exact lt_sc (by omega) | exact lt_dy (by omega) | exact lt_rw (by omega) | exact lt_wa (by omega) | exact lt_le (by omega)) (by first | rfl | rw [sh_sc (by omega)] | rw [sh_dy (by omega)]) (by first | assumption | ((repeat ((with_reducible apply m_up2_tr); · first | omega | (intro z; (try unfold scI at z); (try unfold dyI at z); (try unfold rwI at z); (try unfold waI at z); (try unfold leI at z); omega))); first | assumption | exact m_up2_eq | rfl)) ?_
        refine ms_iload_n dX1_readPeople_120 rfl ?_
        refine ms_ior dX1_readPeople_121 ?_
        refine q_puti dX1_readPeople_122 fX1_50 pX1_1_8 kd_1_8 (by first | decide | exact lt_sc (by omega) | exact lt_dy (by omega) | exact lt_rw (by omega) | exact lt_wa (by omega) | exact lt_le (by omega)) (by first | rfl | rw [sh_sc (by omega)] | rw [sh_dy (by omega)]) ?_
        refine n_iinc dX1_readPeople_125 rfl ?_
        refine ms_goto (tgt := 7) dX1_readPeople_128 (by decide) ?_
        rw [rpI_row]
        exact ih (k + 1) _ _ (by omega) (by omega)
  refine ms_aload_n dX1_readPeople_0 rfl ?_
  refine ms_iconst (v := nI 0) dX1_readPeople_1 (by decide) ?_
  refine q_puti dX1_readPeople_2 fX1_50 pX1_1_8 kd_1_8 (by first | decide | exact lt_sc (by omega) | exact lt_dy (by omega) | exact lt_rw (by omega) | exact lt_wa (by omega) | exact lt_le (by omega)) (by first | rfl | rw [sh_sc (by omega)] | rw [sh_dy (by omega)]) ?_
  refine ms_iconst (v := nI 0) dX1_readPeople_5 (by decide) ?_
  refine ms_istore_n dX1_readPeople_6 (Nat.le_of_ble_eq_true rfl) ?_
  have h9 := outer (n + 1) 0 none none (by omega) (by omega)
  have e0 : m_up2 I 75 8 (nI 0) = rpI I pe bg en pr pn 0 0 := by
    funext a b
    unfold m_up2 rpI
    by_cases h1 : a = 75 ∧ b = 8
    · rw [if_pos h1, if_pos h1]; rfl
    · rw [if_neg h1, if_neg h1, if_neg (Nat.not_lt_zero b)]
      by_cases h2 : a = 78 ∧ b < pn
      · rw [if_pos h2, h2.1]; rfl
      · rw [if_neg h2]
        by_cases h3 : a = 79 ∧ b < pn
        · rw [if_pos h3, h3.1]; rfl
        · rw [if_neg h3]
  rw [e0]
  exact h9
theorem k_readChildren {S : m_S} {I : m_I} {lg : Int64} {d pn : Nat} {cl wr : Nat → Int32} (hd : 2 ≤ d) (hpn : I 65 4 = nI pn) (hpn2 : pn ≤ 8) (hcl : ∀ p, p < pn → I 78 p = cl p ∧ I 79 p = wr p) : m_R S M_X1_readChildren d [.ref 75] (hh I lg) none (hh (m_up2 I 75 9 (tdG (I 75 8 &&& I 65 3) cl wr pn)) lg) := by
  obtain ⟨ch, hch⟩ : ∃ z, z = I 75 8 &&& I 65 3 := ⟨_, rfl⟩
  rw [← hch]
  have loop : ∀ (q k : Nat), k ≤ pn → pn - k < q → m_W S (M_X1_readChildren, d, fun w9 g9 => w9 = none ∧ g9 = hh (m_up2 I 75 9 (tdG ch cl wr pn)) lg, fun _ _ => False) 20 [some (.ref 75), some (.int ch), some (.int (nI k))] [] (hh (m_up2 I 75 9 (tdG ch cl wr k)) lg) 0 0 := by
    intro q
    induction q with
    | zero => intro k  _ h; omega
    | succ q ih =>
      intro k  hk hq
      have hc0 := hcl k
      refine ms_iload_n dX1_readChildren_20 rfl ?_
      refine ms_aload_n dX1_readChildren_21 rfl ?_
      refine q_getr dX1_readChildren_22 fX1_28 kd_1_1 (by first | decide | exact lt_sc (by omega) | exact lt_dy (by omega) | exact lt_rw (by omega) | exact lt_wa (by omega) | exact lt_le (by omega)) (by first | rfl | rw [sh_sc (by omega)] | rw [sh_dy (by omega)]) (by first | rfl | exact rf_wa (by omega) | exact rf_le (by omega) | exact rf_rw (by omega)) ?_
      refine q_geti dX1_readChildren_25 fX1_103 (by rw [kd_2_4]; decide) (by first | decide | exact lt_sc (by omega) | exact lt_dy (by omega) | exact lt_rw (by omega) | exact lt_wa (by omega) | exact lt_le (by omega)) (by first | rfl | rw [sh_sc (by omega)] | rw [sh_dy (by omega)]) (by first | assumption | ((repeat ((with_reducible apply m_up2_tr); · first | omega | (intro z; (try unfold scI at z); (try unfold dyI at z); (try unfold rwI at z); (try unfold waI at z); (try unfold leI at z); omega))); first | assumption | exact m_up2_eq | rfl)) ?_
      refine n_icmp_ge (tgt := 76) dX1_readChildren_28 (by decide) (by omega) (by omega) (fun c28 => ?_) (fun c28 => ?_)
      · obtain rfl : k = pn := by omega
        refine ms_vret dX1_readChildren_76 rfl rfl ⟨rfl, ?_⟩
        · rfl
      · obtain ⟨hc1, hc2⟩ := hcl k (by omega)
        have h9 := ih (k + 1) (by omega) (by omega)
        refine ms_iload_n dX1_readChildren_31 rfl ?_
        refine ms_iload_n dX1_readChildren_32 rfl ?_
        refine qRN2 dX1_readChildren_33 kX1_54 (d := d - 1) (by show d - 1 + 1 ≤ d; omega) rfl rfl (Nat.le_of_ble_eq_true rfl) (Nat.le_of_ble_eq_true rfl) (k_hasBit (b := k) _ (by omega)) rfl ?_
        refine ms_if_eq (tgt := 70) dX1_readChildren_36 (by decide) (fun c36 => ?_) (fun c36 => ?_)
        · have e : tdG ch cl wr (k + 1) = tdG ch cl wr k := if_neg (fun z => by rw [bi_0.mp c36] at z; cases z.1)
          rw [e] at h9
          refine n_iinc dX1_readChildren_70 rfl ?_
          refine ms_goto (tgt := 20) dX1_readChildren_73 (by decide) ?_
          exact h9
        · refine ms_aload_n dX1_readChildren_39 rfl ?_
          refine q_getr dX1_readChildren_40 fX1_21 kd_1_7 (by first | decide | exact lt_sc (by omega) | exact lt_dy (by omega) | exact lt_rw (by omega) | exact lt_wa (by omega) | exact lt_le (by omega)) (by first | rfl | rw [sh_sc (by omega)] | rw [sh_dy (by omega)]) (by first | rfl | exact rf_wa (by omega) | exact rf_le (by omega) | exact rf_rw (by omega)) ?_
          refine ms_iload_n dX1_readChildren_43 rfl ?_
          refine q_iald dX1_readChildren_44 (by first | decide | exact lt_sc (by omega) | exact lt_dy (by omega) | exact lt_rw (by omega) | exact lt_wa (by omega) | exact lt_le (by omega)) (by first | rfl | exact sh_rw (by omega) | exact sh_wa (by omega) | exact sh_le (by omega)) (by omega) (by decide) (by first | assumption | ((repeat ((with_reducible apply m_up2_tr); · first | omega | (intro z; (try unfold scI at z); (try unfold dyI at z); (try unfold rwI at z); (try unfold waI at z); (try unfold leI at z); omega))); first | assumption | exact m_up2_eq | rfl)) ?_
          refine ms_aload_n dX1_readChildren_45 rfl ?_
          refine q_getr dX1_readChildren_46 fX1_18 kd_1_6 (by first | decide | exact lt_sc (by omega) | exact lt_dy (by omega) | exact lt_rw (by omega) | exact lt_wa (by omega) | exact lt_le (by omega)) (by first | rfl | rw [sh_sc (by omega)] | rw [sh_dy (by omega)]) (by first | rfl | exact rf_wa (by omega) | exact rf_le (by omega) | exact rf_rw (by omega)) ?_
          refine ms_iload_n dX1_readChildren_49 rfl ?_
          refine q_iald dX1_readChildren_50 (by first | decide | exact lt_sc (by omega) | exact lt_dy (by omega) | exact lt_rw (by omega) | exact lt_wa (by omega) | exact lt_le (by omega)) (by first | rfl | exact sh_rw (by omega) | exact sh_wa (by omega) | exact sh_le (by omega)) (by omega) (by decide) (by first | assumption | ((repeat ((with_reducible apply m_up2_tr); · first | omega | (intro z; (try unfold scI at z); (try unfold dyI at z); (try unfold rwI at z); (try unfold waI at z); (try unfold leI at z); omega))); first | assumption | exact m_up2_eq | rfl)) ?_
          refine ms_isub dX1_readChildren_51 ?_
          refine ms_sipush (v := nI 480) dX1_readChildren_52 (by decide) ?_
          refine ms_icmp_le (tgt := 70) dX1_readChildren_55 (by decide) (fun c55 => ?_) (fun c55 => ?_)
          · have e : tdG ch cl wr (k + 1) = tdG ch cl wr k := if_neg (fun z => (Int32.not_lt.mpr c55) z.2)
            rw [e] at h9
            refine n_iinc dX1_readChildren_70 rfl ?_
            refine ms_goto (tgt := 20) dX1_readChildren_73 (by decide) ?_
            exact h9
          · have e : tdG ch cl wr (k + 1) = tdG ch cl wr k ||| (nI 1 <<< (nI k &&& 31)) := if_pos ⟨bi_n0.mp c36, Int32.not_le.mp c55⟩
            rw [e] at h9
            refine ms_aload_n dX1_readChildren_58 rfl ?_
            refine ms_dup dX1_readChildren_59 rfl ?_
            refine q_geti dX1_readChildren_60 fX1_109 (by rw [kd_1_9]; decide) (by first | decide | exact lt_sc (by omega) | exact lt_dy (by omega) | exact lt_rw (by omega) | exact lt_wa (by omega) | exact lt_le (by omega)) (by first | rfl | rw [sh_sc (by omega)] | rw [sh_dy (by omega)]) (by first | assumption | ((repeat ((with_reducible apply m_up2_tr); · first | omega | (intro z; (try unfold scI at z); (try unfold dyI at z); (try unfold rwI at z); (try unfold waI at z); (try unfold leI at z); omega))); first | assumption | exact m_up2_eq | rfl)) ?_
            refine ms_iconst (v := nI 1) dX1_readChildren_63 (by decide) ?_
            refine ms_iload_n dX1_readChildren_64 rfl ?_
            refine ms_ishl dX1_readChildren_65 ?_
            refine ms_ior dX1_readChildren_66 ?_
            refine q_puti dX1_readChildren_67 fX1_109 pX1_1_9 kd_1_9 (by first | decide | exact lt_sc (by omega) | exact lt_dy (by omega) | exact lt_rw (by omega) | exact lt_wa (by omega) | exact lt_le (by omega)) (by first | rfl | rw [sh_sc (by omega)] | rw [sh_dy (by omega)]) ?_
            refine n_iinc dX1_readChildren_70 rfl ?_
            refine ms_goto (tgt := 20) dX1_readChildren_73 (by decide) ?_
            have e2 : m_up2 (m_up2 I 75 9 (tdG ch cl wr k)) 75 9 (tdG ch cl wr k ||| (nI 1 <<< (nI k &&& 31))) = m_up2 I 75 9 (tdG ch cl wr k ||| (nI 1 <<< (nI k &&& 31))) := by
              funext a b
              unfold m_up2
              split <;> rfl
            rw [e2]
            exact h9
  refine ms_aload_n dX1_readChildren_0 rfl ?_
  refine ms_iconst (v := nI 0) dX1_readChildren_1 (by decide) ?_
  refine q_puti dX1_readChildren_2 fX1_109 pX1_1_9 kd_1_9 (by first | decide | exact lt_sc (by omega) | exact lt_dy (by omega) | exact lt_rw (by omega) | exact lt_wa (by omega) | exact lt_le (by omega)) (by first | rfl | rw [sh_sc (by omega)] | rw [sh_dy (by omega)]) ?_
  refine ms_aload_n dX1_readChildren_5 rfl ?_
  refine q_geti dX1_readChildren_6 fX1_50 (by rw [kd_1_8]; decide) (by first | decide | exact lt_sc (by omega) | exact lt_dy (by omega) | exact lt_rw (by omega) | exact lt_wa (by omega) | exact lt_le (by omega)) (by first | rfl | rw [sh_sc (by omega)] | rw [sh_dy (by omega)]) (by first | assumption | ((repeat ((with_reducible apply m_up2_tr); · first | omega | (intro z; (try unfold scI at z); (try unfold dyI at z); (try unfold rwI at z); (try unfold waI at z); (try unfold leI at z); omega))); first | assumption | exact m_up2_eq | rfl)) ?_
  refine ms_aload_n dX1_readChildren_9 rfl ?_
  refine q_getr dX1_readChildren_10 fX1_28 kd_1_1 (by first | decide | exact lt_sc (by omega) | exact lt_dy (by omega) | exact lt_rw (by omega) | exact lt_wa (by omega) | exact lt_le (by omega)) (by first | rfl | rw [sh_sc (by omega)] | rw [sh_dy (by omega)]) (by first | rfl | exact rf_wa (by omega) | exact rf_le (by omega) | exact rf_rw (by omega)) ?_
  refine q_geti dX1_readChildren_13 fX1_112 (by rw [kd_2_3]; decide) (by first | decide | exact lt_sc (by omega) | exact lt_dy (by omega) | exact lt_rw (by omega) | exact lt_wa (by omega) | exact lt_le (by omega)) (by first | rfl | rw [sh_sc (by omega)] | rw [sh_dy (by omega)]) (by first | assumption | ((repeat ((with_reducible apply m_up2_tr); · first | omega | (intro z; (try unfold scI at z); (try unfold dyI at z); (try unfold rwI at z); (try unfold waI at z); (try unfold leI at z); omega))); first | assumption | exact m_up2_eq | rfl)) ?_
  refine ms_iand dX1_readChildren_16 ?_
  rw [← hch]
  refine ms_istore_n dX1_readChildren_17 (Nat.le_of_ble_eq_true rfl) ?_
  refine ms_iconst (v := nI 0) dX1_readChildren_18 (by decide) ?_
  refine ms_istore_n dX1_readChildren_19 (Nat.le_of_ble_eq_true rfl) ?_
  exact loop (pn + 1) 0 (by omega) (by omega)
theorem k_hasWorkFor {S : m_S} {I : m_I} {lg : Int64} {d p : Nat} (hd : 2 ≤ d) (hp : p < 32) : m_R S M_X1_hasWorkFor d [.ref 75, .int (nI p)] (hh I lg) (some (.int (bi (bt (I 75 8) p)))) (hh I lg) := by
  refine ms_aload_n dX1_hasWorkFor_0 rfl ?_
  refine q_geti dX1_hasWorkFor_1 fX1_50 (by rw [kd_1_8]; decide) (by first | decide | exact lt_sc (by omega) | exact lt_dy (by omega) | exact lt_rw (by omega) | exact lt_wa (by omega) | exact lt_le (by omega)) (by first | rfl | rw [sh_sc (by omega)] | rw [sh_dy (by omega)]) rfl ?_
  refine ms_iload_n dX1_hasWorkFor_4 rfl ?_
  refine qRN2 dX1_hasWorkFor_5 kX1_54 (d := d - 1) (by show d - 1 + 1 ≤ d; omega) rfl rfl (Nat.le_of_ble_eq_true rfl) (Nat.le_of_ble_eq_true rfl) (k_hasBit (b := p) _ hp) rfl ?_
  refine ms_zret dX1_hasWorkFor_8 rfl rfl (by first | exact Or.inl (by decide) | exact Or.inr (by decide) | assumption | exact bi_01 _) ⟨?_, ?_⟩
  · rfl
  · rfl

