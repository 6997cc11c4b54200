/-! the clock of a day -/
/-- behind k scenes: the minute, and whether lunch was -/
def ckG (st : Int32) (las mv : Nat → Int32) : Nat → Int32 × Bool
  | 0 => (st, false)
  | k + 1 =>
    let m1 := (ckG st las mv k).1 + mv k
    let lu := !(ckG st las mv k).2 && decide (st + nI 360 < m1 + las k)
    ((if lu then m1 + nI 30 else m1) + las k, (ckG st las mv k).2 || lu)
def luG (st : Int32) (las mv : Nat → Int32) (k : Nat) : Bool := !(ckG st las mv k).2 && decide (st + nI 360 < (ckG st las mv k).1 + mv k + las k)
def bgG (st : Int32) (las mv : Nat → Int32) (k : Nat) : Int32 := if luG st las mv k then (ckG st las mv k).1 + mv k + nI 30 else (ckG st las mv k).1 + mv k
def enG (st : Int32) (las mv : Nat → Int32) (k : Nat) : Int32 := bgG st las mv k + las k
theorem ckG_succ (st : Int32) (las mv : Nat → Int32) (k : Nat) : ckG st las mv (k + 1) = (enG st las mv k, (ckG st las mv k).2 || luG st las mv k) := rfl
theorem ckG_cong {st : Int32} {las las' mv mv' : Nat → Int32} {k : Nat} (h : ∀ j, j < k → las j = las' j ∧ mv j = mv' j) : ckG st las mv k = ckG st las' mv' k := by
  induction k with
  | zero => rfl
  | succ k ih =>
    obtain ⟨h1, h2⟩ := h k (by omega)
    unfold ckG
    rw [ih (fun j hj => h j (by omega)), h1, h2]
theorem bgG_cong {st : Int32} {las las' mv mv' : Nat → Int32} {k : Nat} (h : ∀ j, j ≤ k → las j = las' j ∧ mv j = mv' j) : bgG st las mv k = bgG st las' mv' k := by
  obtain ⟨h1, h2⟩ := h k (Nat.le_refl _)
  unfold bgG luG
  rw [ckG_cong (fun j hj => h j (by omega)), h1, h2]
theorem enG_cong {st : Int32} {las las' mv mv' : Nat → Int32} {k : Nat} (h : ∀ j, j ≤ k → las j = las' j ∧ mv j = mv' j) : enG st las mv k = enG st las' mv' k := by
  unfold enG
  rw [bgG_cong h, (h k (Nat.le_refl _)).1]
/-- the day t has n scenes, the scenes w, at the places pl -/
def DyC (I : m_I) (t n : Nat) (w pl : Nat → Nat) : Prop := t < 30 ∧ I (dyI t) 6 = nI n ∧ n ≤ 8 ∧ (∀ j, j < n → I (rwI t) j = nI (w j) ∧ w j < 20) ∧ ∀ j, j < n → I (scI (w j)) 0 = nI (pl j) ∧ pl j < 6
def laC (I : m_I) (w : Nat → Nat) (k : Nat) : Int32 := lasC I (w k) (eiC I)
def moC (I : m_I) (pl : Nat → Nat) (k : Nat) : Int32 := if k = 0 then nI 0 else mvC I (pl (k - 1)) (pl k)
def rrI (I : m_I) (bg en : Nat → Int32) (k : Nat) : m_I := fun a b => if a = 76 ∧ b < k then bg b else if a = 77 ∧ b < k then en b else I a b
theorem rrI_0 (I : m_I) (bg en : Nat → Int32) : rrI I bg en 0 = I := by
  funext a b
  unfold rrI
  rw [if_neg (by omega), if_neg (by omega)]
theorem rrI_ne {I : m_I} {bg en : Nat → Int32} {k a b : Nat} (h : a ≠ 76 ∧ a ≠ 77) : rrI I bg en k a b = I a b := by
  unfold rrI
  rw [if_neg (fun z => h.1 z.1), if_neg (fun z => h.2 z.1)]
theorem rrI_step (I : m_I) (bg en : Nat → Int32) (k : Nat) : m_up2 (m_up2 (rrI I bg en k) 76 k (bg k)) 77 k (en k) = rrI I bg en (k + 1) := by
  funext a b
  unfold m_up2 rrI
  by_cases h1 : a = 77 ∧ b = k
  · rw [if_pos h1, if_neg (by omega), if_pos (by omega), h1.2]
  · rw [if_neg h1]
    by_cases h2 : a = 76 ∧ b = k
    · rw [if_pos h2, if_pos (by omega), h2.2]
    · rw [if_neg h2]
      by_cases h3 : a = 76 ∧ b < k
      · rw [if_pos h3, if_pos (by omega)]
      · by_cases h4 : a = 77 ∧ b < k
        · rw [if_neg h3, if_pos h4, if_neg (show ¬ (a = 76 ∧ b < k + 1) by omega), if_pos (show a = 77 ∧ b < k + 1 by omega)]
        · rw [if_neg h3, if_neg h4, if_neg (show ¬ (a = 76 ∧ b < k + 1) by omega), if_neg (show ¬ (a = 77 ∧ b < k + 1) by omega)]
theorem lasC_cong {I J : m_I} {s : Nat} {e : Int32} (h : ∀ b, J (scI s) b = I (scI s) b) : lasC J s e = lasC I s e := by
  unfold lasC
  rw [h, h, h]
theorem mvC_cong {I J : m_I} {a b : Nat} (h : ∀ b, J 71 b = I 71 b) : mvC J a b = mvC I a b := by
  unfold mvC
  rw [h]
theorem k_readRow {S : m_S} {I : m_I} {lg : Int64} {d t n : Nat} {w pl : Nat → Nat} (hd : 2 ≤ d) (hD : DyC I t n w pl) : m_R S M_X1_readRow d [.ref 75, .ref (dyI t)] (hh I lg) none (hh (m_up2 (rrI I (bgG (I (dyI t) 0) (laC I w) (moC I pl)) (enG (I (dyI t) 0) (laC I w) (moC I pl)) n) 75 10 (bi (decide (I (dyI t) 0 + nI 720 < (ckG (I (dyI t) 0) (laC I w) (moC I pl) n).1)))) lg) := by
  obtain ⟨ht, hn, hn2, hw, hp⟩ := hD
  obtain ⟨st, hst⟩ : ∃ z, z = I (dyI t) 0 := ⟨_, rfl⟩
  obtain ⟨las, hlas⟩ : ∃ z, z = laC I w := ⟨_, rfl⟩
  obtain ⟨mv, hmv⟩ : ∃ z, z = moC I pl := ⟨_, rfl⟩
  rw [← hst, ← hlas, ← hmv]
  have hstI : I (dyI t) 0 = st := hst.symm
  have hdy : ∀ k b, rrI I (bgG st las mv) (enG st las mv) k (dyI t) b = I (dyI t) b := fun k b => rrI_ne (by unfold dyI; omega)
  have hrw : ∀ k b, rrI I (bgG st las mv) (enG st las mv) k (rwI t) b = I (rwI t) b := fun k b => rrI_ne (by unfold rwI; omega)
  have hsc : ∀ k s b, s < 20 → rrI I (bgG st las mv) (enG st las mv) k (scI s) b = I (scI s) b := fun k s b hs => rrI_ne (by unfold scI; omega)
  have loop : ∀ (q k : Nat) (d7 d8 : Option Value), k ≤ n → n - k < q → m_W S (M_X1_readRow, d, fun w9 g => w9 = none ∧ g = hh (m_up2 (rrI I (bgG st las mv) (enG st las mv) n) 75 10 (bi (decide (st + nI 720 < (ckG st las mv n).1)))) lg, fun _ _ => False) 29 [some (.ref 75), some (.ref (dyI t)), some (.int (eiC I)), some (.int (ckG st las mv k).1), some (.int (st + nI 360)), some (.int (bi (ckG st las mv k).2)), some (.int (nI k)), d7, d8] [] (hh (rrI I (bgG st las mv) (enG st las mv) k) lg) 0 0 := by
    intro q
    induction q with
    | zero => intro k _ _ _ h; omega
    | succ q ih =>
      intro k d7 d8 hk hq
      have hn' := (hdy k 6).trans hn
      have hs' := (hdy k 0).trans hstI
      refine ms_iload dX1_readRow_29 rfl ?_
      refine ms_aload_n dX1_readRow_31 rfl ?_
      refine q_geti dX1_readRow_32 fX1_69 (by rw [kd_3_6]; decide) (by first | decide | exact lt_sc (by omega) | exact lt_dy (by omega) | exact lt_rw (by omega) | exact lt_wa (by omega) | exact lt_le (by omega)) (by first | rfl | rw [sh_sc (by omega)] | rw [sh_dy (by omega)]) (by first | assumption | ((repeat ((with_reducible apply m_up2_tr); · first | omega | (intro z; (try unfold scI at z); (try unfold dyI at z); (try unfold rwI at z); (try unfold waI at z); (try unfold leI at z); omega))); first | assumption | exact m_up2_eq | rfl)) ?_
      refine n_icmp_ge (tgt := 150) dX1_readRow_35 (by decide) (by omega) (by omega) (fun c35 => ?_) (fun c35 => ?_)
      · obtain rfl : k = n := by omega
        refine ms_aload_n dX1_readRow_150 rfl ?_
        refine ms_iload_n dX1_readRow_151 rfl ?_
        refine ms_aload_n dX1_readRow_152 rfl ?_
        refine q_geti dX1_readRow_153 fX1_64 (by rw [kd_3_0]; decide) (by first | decide | exact lt_sc (by omega) | exact lt_dy (by omega) | exact lt_rw (by omega) | exact lt_wa (by omega) | exact lt_le (by omega)) (by first | rfl | rw [sh_sc (by omega)] | rw [sh_dy (by omega)]) (by first | assumption | ((repeat ((with_reducible apply m_up2_tr); · first | omega | (intro z; (try unfold scI at z); (try unfold dyI at z); (try unfold rwI at z); (try unfold waI at z); (try unfold leI at z); omega))); first | assumption | exact m_up2_eq | rfl)) ?_
        refine ms_sipush (v := nI 720) dX1_readRow_156 (by decide) ?_
        refine ms_iadd dX1_readRow_159 ?_
        refine ms_icmp_le (tgt := 167) dX1_readRow_160 (by decide) (fun c160 => ?_) (fun c160 => ?_)
        · refine ms_iconst (v := nI 0) dX1_readRow_167 (by decide) ?_
          refine q_putz dX1_readRow_168 fX1_96 pX1_1_10 kd_1_10 (by first | decide | exact lt_sc (by omega) | exact lt_dy (by omega) | exact lt_rw (by omega) | exact lt_wa (by omega) | exact lt_le (by omega)) (by first | rfl | rw [sh_sc (by omega)] | rw [sh_dy (by omega)]) (by first | exact Or.inl (by decide) | exact Or.inr (by decide) | assumption | exact bi_01 _) ?_
          refine ms_vret dX1_readRow_171 rfl rfl ⟨rfl, ?_⟩
          · rw [decide_eq_false (Int32.not_lt.mpr c160)]; rfl
        · refine ms_iconst (v := nI 1) dX1_readRow_163 (by decide) ?_
          refine ms_goto (tgt := 168) dX1_readRow_164 (by decide) ?_
          refine q_putz dX1_readRow_168 fX1_96 pX1_1_10 kd_1_10 (by first | decide | exact lt_sc (by omega) | exact lt_dy (by omega) | exact lt_rw (by omega) | exact lt_wa (by omega) | exact lt_le (by omega)) (by first | rfl | rw [sh_sc (by omega)] | rw [sh_dy (by omega)]) (by first | exact Or.inl (by decide) | exact Or.inr (by decide) | assumption | exact bi_01 _) ?_
          refine ms_vret dX1_readRow_171 rfl rfl ⟨rfl, ?_⟩
          · rw [decide_eq_true (Int32.not_le.mp c160)]; rfl
      · obtain ⟨hw1, hw2⟩ := hw k (by omega)
        obtain ⟨hp1, hp2⟩ := hp k (by omega)
        have hw1' := (hrw k k).trans hw1
        have hp1' := (hsc k (w k) 0 hw2).trans hp1
        have hla : lasC (rrI I (bgG st las mv) (enG st las mv) k) (w k) (eiC I) = las k := by
          rw [lasC_cong (fun b => hsc k (w k) b hw2), hlas]
          rfl
        have tail2 : ∀ (x : Int32) (lu : Bool), x = bgG st las mv k → lu = ((ckG st las mv k).2 || luG st las mv k) → m_W S (M_X1_readRow, d, fun w9 g => w9 = none ∧ g = hh (m_up2 (rrI I (bgG st las mv) (enG st las mv) n) 75 10 (bi (decide (st + nI 720 < (ckG st las mv n).1)))) lg, fun _ _ => False) 123 [some (.ref 75), some (.ref (dyI t)), some (.int (eiC I)), some (.int x), some (.int (st + nI 360)), some (.int (bi lu)), some (.int (nI k)), some (.ref (scI (w k))), some (.int (las k))] [] (hh (rrI I (bgG st las mv) (enG st las mv) k) lg) 0 0 := by
          intro x lu hx hlu
          have h9 := ih (k + 1) (some (.ref (scI (w k)))) (some (.int (las k))) (by omega) (by omega)
          rw [ckG_succ, ← rrI_step] at h9
          subst hx; subst hlu
          refine ms_aload_n dX1_readRow_123 rfl ?_
          refine q_getr dX1_readRow_124 fX1_9 kd_1_4 (by first | decide | exact lt_sc (by omega) | exact lt_dy (by omega) | exact lt_rw (by omega) | exact lt_wa (by omega) | exact lt_le (by omega)) (by first | rfl | rw [sh_sc (by omega)] | rw [sh_dy (by omega)]) (by first | rfl | exact rf_wa (by omega) | exact rf_le (by omega) | exact rf_rw (by omega)) ?_
          refine ms_iload dX1_readRow_127 rfl ?_
          refine ms_iload_n dX1_readRow_129 rfl ?_
          refine q_iast dX1_readRow_130 (by first | decide | exact lt_sc (by omega) | exact lt_dy (by omega) | exact lt_rw (by omega) | exact lt_wa (by omega) | exact lt_le (by omega)) (by first | rfl | exact sh_rw (by omega) | exact sh_wa (by omega) | exact sh_le (by omega)) (by omega) (by decide) ?_
          refine ms_iload_n dX1_readRow_131 rfl ?_
          refine ms_iload dX1_readRow_132 rfl ?_
          refine ms_iadd dX1_readRow_134 ?_
          refine ms_istore_n dX1_readRow_135 (Nat.le_of_ble_eq_true rfl) ?_
          refine ms_aload_n dX1_readRow_136 rfl ?_
          refine q_getr dX1_readRow_137 fX1_15 kd_1_5 (by first | decide | exact lt_sc (by omega) | exact lt_dy (by omega) | exact lt_rw (by omega) | exact lt_wa (by omega) | exact lt_le (by omega)) (by first | rfl | rw [sh_sc (by omega)] | rw [sh_dy (by omega)]) (by first | rfl | exact rf_wa (by omega) | exact rf_le (by omega) | exact rf_rw (by omega)) ?_
          refine ms_iload dX1_readRow_140 rfl ?_
          refine ms_iload_n dX1_readRow_142 rfl ?_
          refine q_iast dX1_readRow_143 (by first | decide | exact lt_sc (by omega) | exact lt_dy (by omega) | exact lt_rw (by omega) | exact lt_wa (by omega) | exact lt_le (by omega)) (by first | rfl | exact sh_rw (by omega) | exact sh_wa (by omega) | exact sh_le (by omega)) (by omega) (by decide) ?_
          refine n_iinc dX1_readRow_144 rfl ?_
          refine ms_goto (tgt := 29) dX1_readRow_147 (by decide) ?_
          exact h9
        have tail : ∀ x : Int32, x = (ckG st las mv k).1 + mv k → m_W S (M_X1_readRow, d, fun w9 g => w9 = none ∧ g = hh (m_up2 (rrI I (bgG st las mv) (enG st las mv) n) 75 10 (bi (decide (st + nI 720 < (ckG st las mv n).1)))) lg, fun _ _ => False) 103 [some (.ref 75), some (.ref (dyI t)), some (.int (eiC I)), some (.int x), some (.int (st + nI 360)), some (.int (bi (ckG st las mv k).2)), some (.int (nI k)), some (.ref (scI (w k))), some (.int (las k))] [] (hh (rrI I (bgG st las mv) (enG st las mv) k) lg) 0 0 := by
          intro x hx
          refine ms_iload dX1_readRow_103 rfl ?_
          refine ms_if_ne (tgt := 123) dX1_readRow_105 (by decide) (fun c105 => ?_) (fun c105 => ?_)
          · have e : luG st las mv k = false := by unfold luG; rw [bi_n0.mp c105]; rfl
            refine tail2 x _ ?_ ?_
            · unfold bgG; rw [e, hx]; rfl
            · rw [e, Bool.or_false]
          · refine ms_iload_n dX1_readRow_108 rfl ?_
            refine ms_iload dX1_readRow_109 rfl ?_
            refine ms_iadd dX1_readRow_111 ?_
            refine ms_iload dX1_readRow_112 rfl ?_
            refine ms_icmp_le (tgt := 123) dX1_readRow_114 (by decide) (fun c114 => ?_) (fun c114 => ?_)
            · have e : luG st las mv k = false := by
                unfold luG
                rw [← hx, decide_eq_false (Int32.not_lt.mpr c114), Bool.and_false]
              refine tail2 x _ ?_ ?_
              · unfold bgG; rw [e, hx]; rfl
              · rw [e, Bool.or_false]
            · have e : luG st las mv k = true := by
                unfold luG
                rw [← hx, decide_eq_true (Int32.not_le.mp c114), bi_0.mp c105]; rfl
              refine ms_iinc dX1_readRow_117 rfl (show x + Int32.ofInt 30 = x + nI 30 from rfl) ?_
              refine ms_iconst (v := nI 1) dX1_readRow_120 (by decide) ?_
              refine ms_istore dX1_readRow_121 (Nat.le_of_ble_eq_true rfl) ?_
              refine tail2 (x + nI 30) true ?_ ?_
              · unfold bgG; rw [e, hx]; rfl
              · rw [e, Bool.or_true]
        refine ms_aload_n dX1_readRow_38 rfl ?_
        refine q_getr dX1_readRow_39 fX1_24 kd_1_0 (by first | decide | exact lt_sc (by omega) | exact lt_dy (by omega) | exact lt_rw (by omega) | exact lt_wa (by omega) | exact lt_le (by omega)) (by first | rfl | rw [sh_sc (by omega)] | rw [sh_dy (by omega)]) (by first | rfl | exact rf_wa (by omega) | exact rf_le (by omega) | exact rf_rw (by omega)) ?_
        refine q_getr dX1_readRow_42 fX1_72 kd_9_0 (by first | decide | exact lt_sc (by omega) | exact lt_dy (by omega) | exact lt_rw (by omega) | exact lt_wa (by omega) | exact lt_le (by omega)) (by first | rfl | rw [sh_sc (by omega)] | rw [sh_dy (by omega)]) (by first | rfl | exact rf_wa (by omega) | exact rf_le (by omega) | exact rf_rw (by omega)) ?_
        refine ms_aload_n dX1_readRow_45 rfl ?_
        refine q_getr dX1_readRow_46 fX1_78 kd_3_5 (by first | decide | exact lt_sc (by omega) | exact lt_dy (by omega) | exact lt_rw (by omega) | exact lt_wa (by omega) | exact lt_le (by omega)) (by first | rfl | rw [sh_sc (by omega)] | rw [sh_dy (by omega)]) (by first | rfl | exact rf_wa (by omega) | exact rf_le (by omega) | exact rf_rw (by omega)) ?_
        refine ms_iload dX1_readRow_49 rfl ?_
        refine q_iald dX1_readRow_51 (by first | decide | exact lt_sc (by omega) | exact lt_dy (by omega) | exact lt_rw (by omega) | exact lt_wa (by omega) | exact lt_le (by omega)) (by first | rfl | exact sh_rw (by omega) | exact sh_wa (by omega) | exact sh_le (by omega)) (by omega) (by decide) (by first | assumption | ((repeat ((with_reducible apply m_up2_tr); · first | omega | (intro z; (try unfold scI at z); (try unfold dyI at z); (try unfold rwI at z); (try unfold waI at z); (try unfold leI at z); omega))); first | assumption | exact m_up2_eq | rfl)) ?_
        refine q_aald dX1_readRow_52 (by first | exact Or.inl ⟨rfl, by omega, rfl⟩ | exact Or.inr ⟨rfl, by omega, rfl⟩) ?_
        refine ms_astore dX1_readRow_53 (Nat.le_of_ble_eq_true rfl) ?_
        refine ms_aload dX1_readRow_55 rfl ?_
        refine ms_iload_n dX1_readRow_57 rfl ?_
        refine qRV1 dX1_readRow_58 kX1_81 (by show _ < 178; first | decide | exact lt_sc (by omega) | exact lt_dy (by omega)) (by show (sh0 _).1 = _; first | rfl | rw [sh_sc (by omega)] | rw [sh_dy (by omega)]) (d := d - 1) (by show d - 1 + 1 ≤ d; omega) rfl (Nat.le_of_ble_eq_true rfl) (Nat.le_of_ble_eq_true rfl) (k_lasts (s := w k) hw2 (eiC I)) rfl ?_
        rw [hla]
        refine ms_istore dX1_readRow_61 (Nat.le_of_ble_eq_true rfl) ?_
        refine ms_iload dX1_readRow_63 rfl ?_
        rcases Nat.eq_zero_or_pos k with hk0 | hk0
        · subst hk0
          refine ms_if_le (tgt := 103) dX1_readRow_65 (by decide) (fun _ => ?_) (fun c65 => absurd (by decide) c65)
          refine tail _ ?_
          rw [hmv]
          exact (Int32.add_zero _).symm
        · refine ms_if_le (tgt := 103) dX1_readRow_65 (by decide) (fun c65 => absurd c65 (nI_nle hk0 (by omega))) (fun c65 => ?_)
          obtain ⟨hw3, hw4⟩ := hw (k - 1) (by omega)
          obtain ⟨hp3, hp4⟩ := hp (k - 1) (by omega)
          have hw3' := (hrw k (k - 1)).trans hw3
          have hp3' := (hsc k (w (k - 1)) 0 hw4).trans hp3
          refine ms_iload_n dX1_readRow_68 rfl ?_
          refine ms_aload_n dX1_readRow_69 rfl ?_
          refine q_getr dX1_readRow_70 fX1_32 kd_1_2 (by first | decide | exact lt_sc (by omega) | exact lt_dy (by omega) | exact lt_rw (by omega) | exact lt_wa (by omega) | exact lt_le (by omega)) (by first | rfl | rw [sh_sc (by omega)] | rw [sh_dy (by omega)]) (by first | rfl | exact rf_wa (by omega) | exact rf_le (by omega) | exact rf_rw (by omega)) ?_
          refine ms_aload_n dX1_readRow_73 rfl ?_
          refine q_getr dX1_readRow_74 fX1_24 kd_1_0 (by first | decide | exact lt_sc (by omega) | exact lt_dy (by omega) | exact lt_rw (by omega) | exact lt_wa (by omega) | exact lt_le (by omega)) (by first | rfl | rw [sh_sc (by omega)] | rw [sh_dy (by omega)]) (by first | rfl | exact rf_wa (by omega) | exact rf_le (by omega) | exact rf_rw (by omega)) ?_
          refine q_getr dX1_readRow_77 fX1_72 kd_9_0 (by first | decide | exact lt_sc (by omega) | exact lt_dy (by omega) | exact lt_rw (by omega) | exact lt_wa (by omega) | exact lt_le (by omega)) (by first | rfl | rw [sh_sc (by omega)] | rw [sh_dy (by omega)]) (by first | rfl | exact rf_wa (by omega) | exact rf_le (by omega) | exact rf_rw (by omega)) ?_
          refine ms_aload_n dX1_readRow_80 rfl ?_
          refine q_getr dX1_readRow_81 fX1_78 kd_3_5 (by first | decide | exact lt_sc (by omega) | exact lt_dy (by omega) | exact lt_rw (by omega) | exact lt_wa (by omega) | exact lt_le (by omega)) (by first | rfl | rw [sh_sc (by omega)] | rw [sh_dy (by omega)]) (by first | rfl | exact rf_wa (by omega) | exact rf_le (by omega) | exact rf_rw (by omega)) ?_
          refine ms_iload dX1_readRow_84 rfl ?_
          refine ms_iconst (v := nI 1) dX1_readRow_86 (by decide) ?_
          refine n_isub dX1_readRow_87 (by omega) ?_
          refine q_iald dX1_readRow_88 (by first | decide | exact lt_sc (by omega) | exact lt_dy (by omega) | exact lt_rw (by omega) | exact lt_wa (by omega) | exact lt_le (by omega)) (by first | rfl | exact sh_rw (by omega) | exact sh_wa (by omega) | exact sh_le (by omega)) (by omega) (by decide) (by first | assumption | ((repeat ((with_reducible apply m_up2_tr); · first | omega | (intro z; (try unfold scI at z); (try unfold dyI at z); (try unfold rwI at z); (try unfold waI at z); (try unfold leI at z); omega))); first | assumption | exact m_up2_eq | rfl)) ?_
          refine q_aald dX1_readRow_89 (by first | exact Or.inl ⟨rfl, by omega, rfl⟩ | exact Or.inr ⟨rfl, by omega, rfl⟩) ?_
          refine q_geti dX1_readRow_90 fX1_87 (by rw [kd_8_0]; decide) (by first | decide | exact lt_sc (by omega) | exact lt_dy (by omega) | exact lt_rw (by omega) | exact lt_wa (by omega) | exact lt_le (by omega)) (by first | rfl | rw [sh_sc (by omega)] | rw [sh_dy (by omega)]) (by first | assumption | ((repeat ((with_reducible apply m_up2_tr); · first | omega | (intro z; (try unfold scI at z); (try unfold dyI at z); (try unfold rwI at z); (try unfold waI at z); (try unfold leI at z); omega))); first | assumption | exact m_up2_eq | rfl)) ?_
          refine ms_aload dX1_readRow_93 rfl ?_
          refine q_geti dX1_readRow_95 fX1_87 (by rw [kd_8_0]; decide) (by first | decide | exact lt_sc (by omega) | exact lt_dy (by omega) | exact lt_rw (by omega) | exact lt_wa (by omega) | exact lt_le (by omega)) (by first | rfl | rw [sh_sc (by omega)] | rw [sh_dy (by omega)]) (by first | assumption | ((repeat ((with_reducible apply m_up2_tr); · first | omega | (intro z; (try unfold scI at z); (try unfold dyI at z); (try unfold rwI at z); (try unfold waI at z); (try unfold leI at z); omega))); first | assumption | exact m_up2_eq | rfl)) ?_
          refine qRV2 dX1_readRow_98 kX1_90 (by show _ < 178; first | decide | exact lt_sc (by omega) | exact lt_dy (by omega)) (by show (sh0 _).1 = _; first | rfl | rw [sh_sc (by omega)] | rw [sh_dy (by omega)]) (d := d - 1) (by show d - 1 + 1 ≤ d; omega) rfl rfl (Nat.le_of_ble_eq_true rfl) (Nat.le_of_ble_eq_true rfl) (k_moveBetween (a := pl (k - 1)) (b := pl k) hp4 hp2) rfl ?_
          refine ms_iadd dX1_readRow_101 ?_
          refine ms_istore_n dX1_readRow_102 (Nat.le_of_ble_eq_true rfl) ?_
          refine tail _ ?_
          rw [mvC_cong (fun b => rrI_ne (by decide)), hmv]
          unfold moC
          rw [if_neg (by omega)]
  refine ms_aload_n dX1_readRow_0 rfl ?_
  refine q_getr dX1_readRow_1 fX1_36 kd_1_3 (by first | decide | exact lt_sc (by omega) | exact lt_dy (by omega) | exact lt_rw (by omega) | exact lt_wa (by omega) | exact lt_le (by omega)) (by first | rfl | rw [sh_sc (by omega)] | rw [sh_dy (by omega)]) (by first | rfl | exact rf_wa (by omega) | exact rf_le (by omega) | exact rf_rw (by omega)) ?_
  refine qRV0 dX1_readRow_4 kX1_58 (by show _ < 178; first | decide | exact lt_sc (by omega) | exact lt_dy (by omega)) (by show (sh0 _).1 = _; first | rfl | rw [sh_sc (by omega)] | rw [sh_dy (by omega)]) (d := d - 1) (by show d - 1 + 1 ≤ d; omega)  (Nat.le_of_ble_eq_true rfl) (Nat.le_of_ble_eq_true rfl) (k_ofEighth) rfl ?_
  refine ms_istore_n dX1_readRow_7 (Nat.le_of_ble_eq_true rfl) ?_
  refine ms_aload_n dX1_readRow_8 rfl ?_
  refine q_geti dX1_readRow_9 fX1_64 (by rw [kd_3_0]; decide) (by first | decide | exact lt_sc (by omega) | exact lt_dy (by omega) | exact lt_rw (by omega) | exact lt_wa (by omega) | exact lt_le (by omega)) (by first | rfl | rw [sh_sc (by omega)] | rw [sh_dy (by omega)]) (by first | assumption | ((repeat ((with_reducible apply m_up2_tr); · first | omega | (intro z; (try unfold scI at z); (try unfold dyI at z); (try unfold rwI at z); (try unfold waI at z); (try unfold leI at z); omega))); first | assumption | exact m_up2_eq | rfl)) ?_
  refine ms_istore_n dX1_readRow_12 (Nat.le_of_ble_eq_true rfl) ?_
  refine ms_aload_n dX1_readRow_13 rfl ?_
  refine q_geti dX1_readRow_14 fX1_64 (by rw [kd_3_0]; decide) (by first | decide | exact lt_sc (by omega) | exact lt_dy (by omega) | exact lt_rw (by omega) | exact lt_wa (by omega) | exact lt_le (by omega)) (by first | rfl | rw [sh_sc (by omega)] | rw [sh_dy (by omega)]) (by first | assumption | ((repeat ((with_reducible apply m_up2_tr); · first | omega | (intro z; (try unfold scI at z); (try unfold dyI at z); (try unfold rwI at z); (try unfold waI at z); (try unfold leI at z); omega))); first | assumption | exact m_up2_eq | rfl)) ?_
  refine ms_sipush (v := nI 360) dX1_readRow_17 (by decide) ?_
  refine ms_iadd dX1_readRow_20 ?_
  refine ms_istore dX1_readRow_21 (Nat.le_of_ble_eq_true rfl) ?_
  refine ms_iconst (v := nI 0) dX1_readRow_23 (by decide) ?_
  refine ms_istore dX1_readRow_24 (Nat.le_of_ble_eq_true rfl) ?_
  refine ms_iconst (v := nI 0) dX1_readRow_26 (by decide) ?_
  refine ms_istore dX1_readRow_27 (Nat.le_of_ble_eq_true rfl) ?_
  have h9 := loop (n + 1) 0 none none (by omega) (by omega)
  rw [rrI_0] at h9
  exact h9

