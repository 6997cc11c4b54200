/-! Script: a scene is made -/
/-- the scene n with its place, its lights, its length -/
def adI (I : m_I) (n : Nat) (x1 x2 x3 x4 : Int32) : m_I := m_up2 (m_up2 (m_up2 (m_up2 I (scI n) 0 x1) (scI n) 1 x2) (scI n) 2 x3) (scI n) 3 x4
theorem adI_ne {I : m_I} {n a b : Nat} {x1 x2 x3 x4 : Int32} (h : a < 5 ∨ 4 ≤ b) : adI I n x1 x2 x3 x4 a b = I a b := by
  unfold adI
  refine (m_up2_ne ?_).trans ((m_up2_ne ?_).trans ((m_up2_ne ?_).trans (m_up2_ne ?_))) <;> (unfold scI; omega)
/-- .. and its label, once locked -/
def lbI (I : m_I) (n : Nat) (x l : Int32) : m_I := m_up2 (m_up2 I (scI n) 6 x) (scI n) 7 l
theorem lbI_ne {I : m_I} {n a b : Nat} {x l : Int32} (h : a < 5 ∨ (b ≠ 6 ∧ b ≠ 7)) : lbI I n x l a b = I a b := by
  unfold lbI
  refine (m_up2_ne ?_).trans (m_up2_ne ?_) <;> (unfold scI; omega)
/-- .. and its place in the story -/
def orI (I : m_I) (n sp : Nat) : m_I := m_up2 (m_up2 (shI I 3 sp n) 3 sp (nI n)) 1 3 (nI (n + 1))
theorem nuC_cong {I J : m_I} {o : Nat → Nat} {k : Nat} (h : ∀ j, j < k → J (scI (o j)) 7 = I (scI (o j)) 7 ∧ J (scI (o j)) 6 = I (scI (o j)) 6) : nuC J o k = nuC I o k := by
  induction k with
  | zero => rfl
  | succ k ih =>
    unfold nuC
    obtain ⟨h1, h2⟩ := h k (by omega)
    rw [h1, h2, ih (fun j hj => h j (by omega))]
theorem tkC_cong {I J : m_I} {x : Int32} {k : Nat} (h : ∀ j, j < k → J (scI j) 7 = I (scI j) 7 ∧ J (scI j) 6 = I (scI j) 6) : tkC J x k = tkC I x k := by
  induction k with
  | zero => rfl
  | succ k ih =>
    unfold tkC
    obtain ⟨h1, h2⟩ := h k (by omega)
    rw [h1, h2, ih (fun j hj => h j (by omega))]
theorem add_tail {S : m_S} {I : m_I} {lg : Int64} {d n sp : Nat} {b x1 x2 x3 x4 : Int32} (hm : I 1 3 = nI n) (hn : n < 20) (hsp : sp ≤ n) : m_W S (M_X9_add, d, fun w g => w = some (.int (nI n)) ∧ g = hh (orI I n sp) lg, fun _ _ => False) 76 [some (.ref 1), some (.int b), some (.int x1), some (.int x2), some (.int x3), some (.int x4), some (.int (nI sp)), some (.ref (scI n)), none] [] (hh I lg) 0 0 := by
  have loop : ∀ i, sp ≤ i → i ≤ n → m_W S (M_X9_add, d, fun w g => w = some (.int (nI n)) ∧ g = hh (orI I n sp) lg, fun _ _ => False) 82 [some (.ref 1), some (.int b), some (.int x1), some (.int x2), some (.int x3), some (.int x4), some (.int (nI sp)), some (.ref (scI n)), some (.int (nI i))] [] (hh (shI I 3 i n) lg) 0 0 := by
    intro i
    have hm' : ∀ i, shI I 3 i n 1 3 = nI n := fun i => (shI_ne (by decide)).trans hm
    induction i with
    | zero =>
      intro h1 h2
      obtain rfl : sp = 0 := by omega
      have hm0 := hm' 0
      refine ms_iload dX9_add_82 rfl ?_
      refine ms_iload dX9_add_84 rfl ?_
      refine n_icmp_le (tgt := 111) dX9_add_86 (by decide) (by omega) (by omega) (fun c86 => ?_) (fun c86 => ?_)
      · refine ms_aload_n dX9_add_111 rfl ?_
        refine q_getr dX9_add_112 fX9_17 kd_9_1 (by first | decide | exact lt_sc (by omega) | exact lt_dy (by omega) | exact lt_rw (by omega) | exact lt_wa (by omega) | exact lt_le (by omega)) (by first | rfl | rw [sh_sc (by omega)] | rw [sh_dy (by omega)]) (by first | rfl | exact rf_wa (by omega) | exact rf_le (by omega) | exact rf_rw (by omega)) ?_
        refine ms_iload dX9_add_115 rfl ?_
        refine ms_aload_n dX9_add_117 rfl ?_
        refine q_geti dX9_add_118 fX9_25 (by rw [kd_9_3]; decide) (by first | decide | exact lt_sc (by omega) | exact lt_dy (by omega) | exact lt_rw (by omega) | exact lt_wa (by omega) | exact lt_le (by omega)) (by first | rfl | rw [sh_sc (by omega)] | rw [sh_dy (by omega)]) (by first | assumption | ((repeat ((with_reducible apply m_up2_tr); · first | omega | (intro z; (try unfold scI at z); (try unfold dyI at z); (try unfold rwI at z); (try unfold waI at z); (try unfold leI at z); omega))); first | assumption | exact m_up2_eq | rfl)) ?_
        refine q_iast dX9_add_121 (by first | decide | exact lt_sc (by omega) | exact lt_dy (by omega) | exact lt_rw (by omega) | exact lt_wa (by omega) | exact lt_le (by omega)) (by first | rfl | exact sh_rw (by omega) | exact sh_wa (by omega) | exact sh_le (by omega)) (by omega) (by decide) ?_
        refine ms_aload_n dX9_add_122 rfl ?_
        refine ms_dup dX9_add_123 rfl ?_
        refine q_geti dX9_add_124 fX9_25 (by rw [kd_9_3]; decide) (by first | decide | exact lt_sc (by omega) | exact lt_dy (by omega) | exact lt_rw (by omega) | exact lt_wa (by omega) | exact lt_le (by omega)) (by first | rfl | rw [sh_sc (by omega)] | rw [sh_dy (by omega)]) (by first | assumption | ((repeat ((with_reducible apply m_up2_tr); · first | omega | (intro z; (try unfold scI at z); (try unfold dyI at z); (try unfold rwI at z); (try unfold waI at z); (try unfold leI at z); omega))); first | assumption | exact m_up2_eq | rfl)) ?_
        refine ms_iconst (v := nI 1) dX9_add_127 (by decide) ?_
        refine n_iadd dX9_add_128 ?_
        refine q_puti dX9_add_129 fX9_25 pX9_9_3 kd_9_3 (by first | decide | exact lt_sc (by omega) | exact lt_dy (by omega) | exact lt_rw (by omega) | exact lt_wa (by omega) | exact lt_le (by omega)) (by first | rfl | rw [sh_sc (by omega)] | rw [sh_dy (by omega)]) ?_
        refine ms_aload_n dX9_add_132 rfl ?_
        refine q_geti dX9_add_133 fX9_25 (by rw [kd_9_3]; decide) (by first | decide | exact lt_sc (by omega) | exact lt_dy (by omega) | exact lt_rw (by omega) | exact lt_wa (by omega) | exact lt_le (by omega)) (by first | rfl | rw [sh_sc (by omega)] | rw [sh_dy (by omega)]) (by first | assumption | ((repeat ((with_reducible apply m_up2_tr); · first | omega | (intro z; (try unfold scI at z); (try unfold dyI at z); (try unfold rwI at z); (try unfold waI at z); (try unfold leI at z); omega))); first | assumption | exact m_up2_eq | rfl)) ?_
        refine ms_iconst (v := nI 1) dX9_add_136 (by decide) ?_
        refine n_isub dX9_add_137 (by omega) ?_
        refine ms_iret dX9_add_138 rfl rfl ⟨?_, ?_⟩
        · rfl
        · rfl
      · omega
    | succ i ih =>
      intro h1 h2
      have hm0 := hm' (i + 1)
      refine ms_iload dX9_add_82 rfl ?_
      refine ms_iload dX9_add_84 rfl ?_
      refine n_icmp_le (tgt := 111) dX9_add_86 (by decide) (by omega) (by omega) (fun c86 => ?_) (fun c86 => ?_)
      · obtain rfl : sp = i + 1 := by omega
        refine ms_aload_n dX9_add_111 rfl ?_
        refine q_getr dX9_add_112 fX9_17 kd_9_1 (by first | decide | exact lt_sc (by omega) | exact lt_dy (by omega) | exact lt_rw (by omega) | exact lt_wa (by omega) | exact lt_le (by omega)) (by first | rfl | rw [sh_sc (by omega)] | rw [sh_dy (by omega)]) (by first | rfl | exact rf_wa (by omega) | exact rf_le (by omega) | exact rf_rw (by omega)) ?_
        refine ms_iload dX9_add_115 rfl ?_
        refine ms_aload_n dX9_add_117 rfl ?_
        refine q_geti dX9_add_118 fX9_25 (by rw [kd_9_3]; decide) (by first | decide | exact lt_sc (by omega) | exact lt_dy (by omega) | exact lt_rw (by omega) | exact lt_wa (by omega) | exact lt_le (by omega)) (by first | rfl | rw [sh_sc (by omega)] | rw [sh_dy (by omega)]) (by first | assumption | ((repeat ((with_reducible apply m_up2_tr); · first | omega | (intro z; (try unfold scI at z); (try unfold dyI at z); (try unfold rwI at z); (try unfold waI at z); (try unfold leI at z); omega))); first | assumption | exact m_up2_eq | rfl)) ?_
        refine q_iast dX9_add_121 (by first | decide | exact lt_sc (by omega) | exact lt_dy (by omega) | exact lt_rw (by omega) | exact lt_wa (by omega) | exact lt_le (by omega)) (by first | rfl | exact sh_rw (by omega) | exact sh_wa (by omega) | exact sh_le (by omega)) (by omega) (by decide) ?_
        refine ms_aload_n dX9_add_122 rfl ?_
        refine ms_dup dX9_add_123 rfl ?_
        refine q_geti dX9_add_124 fX9_25 (by rw [kd_9_3]; decide) (by first | decide | exact lt_sc (by omega) | exact lt_dy (by omega) | exact lt_rw (by omega) | exact lt_wa (by omega) | exact lt_le (by omega)) (by first | rfl | rw [sh_sc (by omega)] | rw [sh_dy (by omega)]) (by first | assumption | ((repeat ((with_reducible apply m_up2_tr); · first | omega | (intro z; (try unfold scI at z); (try unfold dyI at z); (try unfold rwI at z); (try unfold waI at z); (try unfold leI at z); omega))); first | assumption | exact m_up2_eq | rfl)) ?_
        refine ms_iconst (v := nI 1) dX9_add_127 (by decide) ?_
        refine n_iadd dX9_add_128 ?_
        refine q_puti dX9_add_129 fX9_25 pX9_9_3 kd_9_3 (by first | decide | exact lt_sc (by omega) | exact lt_dy (by omega) | exact lt_rw (by omega) | exact lt_wa (by omega) | exact lt_le (by omega)) (by first | rfl | rw [sh_sc (by omega)] | rw [sh_dy (by omega)]) ?_
        refine ms_aload_n dX9_add_132 rfl ?_
        refine q_geti dX9_add_133 fX9_25 (by rw [kd_9_3]; decide) (by first | decide | exact lt_sc (by omega) | exact lt_dy (by omega) | exact lt_rw (by omega) | exact lt_wa (by omega) | exact lt_le (by omega)) (by first | rfl | rw [sh_sc (by omega)] | rw [sh_dy (by omega)]) (by first | assumption | ((repeat ((with_reducible apply m_up2_tr); · first | omega | (intro z; (try unfold scI at z); (try unfold dyI at z); (try unfold rwI at z); (try unfold waI at z); (try unfold leI at z); omega))); first | assumption | exact m_up2_eq | rfl)) ?_
        refine ms_iconst (v := nI 1) dX9_add_136 (by decide) ?_
        refine n_isub dX9_add_137 (by omega) ?_
        refine ms_iret dX9_add_138 rfl rfl ⟨?_, ?_⟩
        · rfl
        · rfl
      · refine ms_aload_n dX9_add_89 rfl ?_
        refine q_getr dX9_add_90 fX9_17 kd_9_1 (by first | decide | exact lt_sc (by omega) | exact lt_dy (by omega) | exact lt_rw (by omega) | exact lt_wa (by omega) | exact lt_le (by omega)) (by first | rfl | rw [sh_sc (by omega)] | rw [sh_dy (by omega)]) (by first | rfl | exact rf_wa (by omega) | exact rf_le (by omega) | exact rf_rw (by omega)) ?_
        refine ms_iload dX9_add_93 rfl ?_
        refine ms_aload_n dX9_add_95 rfl ?_
        refine q_getr dX9_add_96 fX9_17 kd_9_1 (by first | decide | exact lt_sc (by omega) | exact lt_dy (by omega) | exact lt_rw (by omega) | exact lt_wa (by omega) | exact lt_le (by omega)) (by first | rfl | rw [sh_sc (by omega)] | rw [sh_dy (by omega)]) (by first | rfl | exact rf_wa (by omega) | exact rf_le (by omega) | exact rf_rw (by omega)) ?_
        refine ms_iload dX9_add_99 rfl ?_
        refine ms_iconst (v := nI 1) dX9_add_101 (by decide) ?_
        refine ms_isub dX9_add_102 ?_
        rw [show nI (i + 1) - nI 1 = nI i from pk_sub (by omega)]
        refine q_iald dX9_add_103 (by first | decide | exact lt_sc (by omega) | exact lt_dy (by omega) | exact lt_rw (by omega) | exact lt_wa (by omega) | exact lt_le (by omega)) (by first | rfl | exact sh_rw (by omega) | exact sh_wa (by omega) | exact sh_le (by omega)) (by omega) (by decide) (by first | assumption | ((repeat ((with_reducible apply m_up2_tr); · first | omega | (intro z; (try unfold scI at z); (try unfold dyI at z); (try unfold rwI at z); (try unfold waI at z); (try unfold leI at z); omega))); first | assumption | exact m_up2_eq | rfl)) ?_
        refine q_iast dX9_add_104 (by first | decide | exact lt_sc (by omega) | exact lt_dy (by omega) | exact lt_rw (by omega) | exact lt_wa (by omega) | exact lt_le (by omega)) (by first | rfl | exact sh_rw (by omega) | exact sh_wa (by omega) | exact sh_le (by omega)) (by omega) (by decide) ?_
        refine n_iincm dX9_add_105 rfl ?_
        refine ms_goto (tgt := 82) dX9_add_108 (by decide) ?_
        rw [shI_step I h2]
        exact ih (by omega) (by omega)
  refine ms_aload_n dX9_add_76 rfl ?_
  refine q_geti dX9_add_77 fX9_25 (by rw [kd_9_3]; decide) (by first | decide | exact lt_sc (by omega) | exact lt_dy (by omega) | exact lt_rw (by omega) | exact lt_wa (by omega) | exact lt_le (by omega)) (by first | rfl | rw [sh_sc (by omega)] | rw [sh_dy (by omega)]) (by first | assumption | ((repeat ((with_reducible apply m_up2_tr); · first | omega | (intro z; (try unfold scI at z); (try unfold dyI at z); (try unfold rwI at z); (try unfold waI at z); (try unfold leI at z); omega))); first | assumption | exact m_up2_eq | rfl)) ?_
  refine ms_istore dX9_add_80 (Nat.le_of_ble_eq_true rfl) ?_
  have h9 := loop n hsp (Nat.le_refl _)
  rw [shI_0] at h9
  exact h9
theorem k_add0 {S : m_S} {I : m_I} {lg : Int64} {d n sp : Nat} {b x1 x4 : Int32} {c2 c3 : Bool} (hd : 4 ≤ d) (hlo : I 1 4 = 0) (hm : I 1 3 = nI n) (hn : n < 20) (hsp : sp ≤ n)
    (hsb : ∀ d', 2 ≤ d' → m_R S M_X9_spotBehind d' [.ref 1, .int b] (hh I lg) (some (.int (nI sp))) (hh I lg)) : m_R S M_X9_add d [.ref 1, .int b, .int x1, .int (bi c2), .int (bi c3), .int x4] (hh I lg) (some (.int (nI n))) (hh (orI (adI I n x1 (bi c2) (bi c3) x4) n sp) lg) := by
  have z2 := bi_01 c2
  have z3 := bi_01 c3
  refine ms_aload_n dX9_add_0 rfl ?_
  refine ms_iload_n dX9_add_1 rfl ?_
  refine qRV1 dX9_add_2 kX9_33 (by show _ < 178; first | decide | exact lt_sc (by omega) | exact lt_dy (by omega)) (by show (sh0 _).1 = _; first | rfl | rw [sh_sc (by omega)] | rw [sh_dy (by omega)]) (d := d - 1) (by show d - 1 + 1 ≤ d; omega) rfl (Nat.le_of_ble_eq_true rfl) (Nat.le_of_ble_eq_true rfl) (hsb _ (by omega)) rfl ?_
  refine ms_istore dX9_add_5 (Nat.le_of_ble_eq_true rfl) ?_
  refine ms_aload_n dX9_add_7 rfl ?_
  refine q_getr dX9_add_8 fX9_11 kd_9_0 (by first | decide | exact lt_sc (by omega) | exact lt_dy (by omega) | exact lt_rw (by omega) | exact lt_wa (by omega) | exact lt_le (by omega)) (by first | rfl | rw [sh_sc (by omega)] | rw [sh_dy (by omega)]) (by first | rfl | exact rf_wa (by omega) | exact rf_le (by omega) | exact rf_rw (by omega)) ?_
  refine ms_aload_n dX9_add_11 rfl ?_
  refine q_geti dX9_add_12 fX9_25 (by rw [kd_9_3]; decide) (by first | decide | exact lt_sc (by omega) | exact lt_dy (by omega) | exact lt_rw (by omega) | exact lt_wa (by omega) | exact lt_le (by omega)) (by first | rfl | rw [sh_sc (by omega)] | rw [sh_dy (by omega)]) (by first | assumption | ((repeat ((with_reducible apply m_up2_tr); · first | omega | (intro z; (try unfold scI at z); (try unfold dyI at z); (try unfold rwI at z); (try unfold waI at z); (try unfold leI at z); omega))); first | assumption | exact m_up2_eq | rfl)) ?_
  refine q_aald dX9_add_15 (by first | exact Or.inl ⟨rfl, by omega, rfl⟩ | exact Or.inr ⟨rfl, by omega, rfl⟩) ?_
  refine ms_astore dX9_add_16 (Nat.le_of_ble_eq_true rfl) ?_
  refine ms_aload dX9_add_18 rfl ?_
  refine ms_iload_n dX9_add_20 rfl ?_
  refine q_puti dX9_add_21 fX9_43 pX9_8_0 kd_8_0 (by first | decide | exact lt_sc (by omega) | exact lt_dy (by omega) | exact lt_rw (by omega) | exact lt_wa (by omega) | exact lt_le (by omega)) (by first | rfl | rw [sh_sc (by omega)] | rw [sh_dy (by omega)]) ?_
  refine ms_aload dX9_add_24 rfl ?_
  refine ms_iload_n dX9_add_26 rfl ?_
  refine q_putz dX9_add_27 fX9_46 pX9_8_1 kd_8_1 (by first | decide | exact lt_sc (by omega) | exact lt_dy (by omega) | exact lt_rw (by omega) | exact lt_wa (by omega) | exact lt_le (by omega)) (by first | rfl | rw [sh_sc (by omega)] | rw [sh_dy (by omega)]) (by first | exact Or.inl (by decide) | exact Or.inr (by decide) | assumption | exact bi_01 _) ?_
  refine ms_aload dX9_add_30 rfl ?_
  refine ms_iload dX9_add_32 rfl ?_
  refine q_putz dX9_add_34 fX9_49 pX9_8_2 kd_8_2 (by first | decide | exact lt_sc (by omega) | exact lt_dy (by omega) | exact lt_rw (by omega) | exact lt_wa (by omega) | exact lt_le (by omega)) (by first | rfl | rw [sh_sc (by omega)] | rw [sh_dy (by omega)]) (by first | exact Or.inl (by decide) | exact Or.inr (by decide) | assumption | exact bi_01 _) ?_
  refine ms_aload dX9_add_37 rfl ?_
  refine ms_iload dX9_add_39 rfl ?_
  refine q_puti dX9_add_41 fX9_52 pX9_8_3 kd_8_3 (by first | decide | exact lt_sc (by omega) | exact lt_dy (by omega) | exact lt_rw (by omega) | exact lt_wa (by omega) | exact lt_le (by omega)) (by first | rfl | rw [sh_sc (by omega)] | rw [sh_dy (by omega)]) ?_
  have hlo' : adI I n x1 (bi c2) (bi c3) x4 1 4 = 0 := (adI_ne (Or.inl (by decide))).trans hlo
  have hm' : adI I n x1 (bi c2) (bi c3) x4 1 3 = nI n := (adI_ne (Or.inl (by decide))).trans hm
  show m_W S _ 44 [some (.ref 1), some (.int b), some (.int x1), some (.int (bi c2)), some (.int (bi c3)), some (.int x4), some (.int (nI sp)), some (.ref (scI n)), none] [] (hh (adI I n x1 (bi c2) (bi c3) x4) lg) 0 0
  refine ms_aload_n dX9_add_44 rfl ?_
  refine q_geti dX9_add_45 fX9_29 (by rw [kd_9_4]; decide) (by first | decide | exact lt_sc (by omega) | exact lt_dy (by omega) | exact lt_rw (by omega) | exact lt_wa (by omega) | exact lt_le (by omega)) (by first | rfl | rw [sh_sc (by omega)] | rw [sh_dy (by omega)]) rfl ?_
  refine ms_if_eq (tgt := 76) dX9_add_48 (by decide) (fun c48 => ?_) (fun c48 => ?_)
  · exact add_tail hm' hn hsp
  · exact absurd hlo' c48
theorem k_add1 {S : m_S} {I : m_I} {lg : Int64} {d n sp q : Nat} {o : Nat → Nat} {b x1 x4 : Int32} {c2 c3 : Bool} (hd : 4 ≤ d) (hlo : ¬ I 1 4 = 0) (hm : I 1 3 = nI n) (hn : n < 20) (hsp : sp ≤ n) (ho : ∀ k, k < n → I 3 k = nI (o k) ∧ o k < n) (hn6 : I (scI n) 7 = 0)
    (hsb : ∀ d', 2 ≤ d' → m_R S M_X9_spotBehind d' [.ref 1, .int b] (hh I lg) (some (.int (nI sp))) (hh I lg))
    (h1 : 1 ≤ q) (h2 : q ≤ 26) (h3 : bt (tkC I (nuC I o sp) n) q = false) (h4 : ∀ p, 1 ≤ p → p < q → bt (tkC I (nuC I o sp) n) p = true) :
    m_R S M_X9_add d [.ref 1, .int b, .int x1, .int (bi c2), .int (bi c3), .int x4] (hh I lg) (some (.int (nI n))) (hh (orI (lbI (adI I n x1 (bi c2) (bi c3) x4) n (nuC I o sp) (nI q)) n sp) lg) := by
  have z2 := bi_01 c2
  have z3 := bi_01 c3
  refine ms_aload_n dX9_add_0 rfl ?_
  refine ms_iload_n dX9_add_1 rfl ?_
  refine qRV1 dX9_add_2 kX9_33 (by show _ < 178; first | decide | exact lt_sc (by omega) | exact lt_dy (by omega)) (by show (sh0 _).1 = _; first | rfl | rw [sh_sc (by omega)] | rw [sh_dy (by omega)]) (d := d - 1) (by show d - 1 + 1 ≤ d; omega) rfl (Nat.le_of_ble_eq_true rfl) (Nat.le_of_ble_eq_true rfl) (hsb _ (by omega)) rfl ?_
  refine ms_istore dX9_add_5 (Nat.le_of_ble_eq_true rfl) ?_
  refine ms_aload_n dX9_add_7 rfl ?_
  refine q_getr dX9_add_8 fX9_11 kd_9_0 (by first | decide | exact lt_sc (by omega) | exact lt_dy (by omega) | exact lt_rw (by omega) | exact lt_wa (by omega) | exact lt_le (by omega)) (by first | rfl | rw [sh_sc (by omega)] | rw [sh_dy (by omega)]) (by first | rfl | exact rf_wa (by omega) | exact rf_le (by omega) | exact rf_rw (by omega)) ?_
  refine ms_aload_n dX9_add_11 rfl ?_
  refine q_geti dX9_add_12 fX9_25 (by rw [kd_9_3]; decide) (by first | decide | exact lt_sc (by omega) | exact lt_dy (by omega) | exact lt_rw (by omega) | exact lt_wa (by omega) | exact lt_le (by omega)) (by first | rfl | rw [sh_sc (by omega)] | rw [sh_dy (by omega)]) (by first | assumption | ((repeat ((with_reducible apply m_up2_tr); · first | omega | (intro z; (try unfold scI at z); (try unfold dyI at z); (try unfold rwI at z); (try unfold waI at z); (try unfold leI at z); omega))); first | assumption | exact m_up2_eq | rfl)) ?_
  refine q_aald dX9_add_15 (by first | exact Or.inl ⟨rfl, by omega, rfl⟩ | exact Or.inr ⟨rfl, by omega, rfl⟩) ?_
  refine ms_astore dX9_add_16 (Nat.le_of_ble_eq_true rfl) ?_
  refine ms_aload dX9_add_18 rfl ?_
  refine ms_iload_n dX9_add_20 rfl ?_
  refine q_puti dX9_add_21 fX9_43 pX9_8_0 kd_8_0 (by first | decide | exact lt_sc (by omega) | exact lt_dy (by omega) | exact lt_rw (by omega) | exact lt_wa (by omega) | exact lt_le (by omega)) (by first | rfl | rw [sh_sc (by omega)] | rw [sh_dy (by omega)]) ?_
  refine ms_aload dX9_add_24 rfl ?_
  refine ms_iload_n dX9_add_26 rfl ?_
  refine q_putz dX9_add_27 fX9_46 pX9_8_1 kd_8_1 (by first | decide | exact lt_sc (by omega) | exact lt_dy (by omega) | exact lt_rw (by omega) | exact lt_wa (by omega) | exact lt_le (by omega)) (by first | rfl | rw [sh_sc (by omega)] | rw [sh_dy (by omega)]) (by first | exact Or.inl (by decide) | exact Or.inr (by decide) | assumption | exact bi_01 _) ?_
  refine ms_aload dX9_add_30 rfl ?_
  refine ms_iload dX9_add_32 rfl ?_
  refine q_putz dX9_add_34 fX9_49 pX9_8_2 kd_8_2 (by first | decide | exact lt_sc (by omega) | exact lt_dy (by omega) | exact lt_rw (by omega) | exact lt_wa (by omega) | exact lt_le (by omega)) (by first | rfl | rw [sh_sc (by omega)] | rw [sh_dy (by omega)]) (by first | exact Or.inl (by decide) | exact Or.inr (by decide) | assumption | exact bi_01 _) ?_
  refine ms_aload dX9_add_37 rfl ?_
  refine ms_iload dX9_add_39 rfl ?_
  refine q_puti dX9_add_41 fX9_52 pX9_8_3 kd_8_3 (by first | decide | exact lt_sc (by omega) | exact lt_dy (by omega) | exact lt_rw (by omega) | exact lt_wa (by omega) | exact lt_le (by omega)) (by first | rfl | rw [sh_sc (by omega)] | rw [sh_dy (by omega)]) ?_
  obtain ⟨J, hJ⟩ : ∃ J, J = adI I n x1 (bi c2) (bi c3) x4 := ⟨_, rfl⟩
  have hlo' : ¬ J 1 4 = 0 := by rw [hJ, adI_ne (Or.inl (by decide))]; exact hlo
  have hm' : J 1 3 = nI n := by rw [hJ, adI_ne (Or.inl (by decide))]; exact hm
  have ho' : ∀ k, k < n → J 3 k = nI (o k) ∧ o k < 20 := fun k hk => by
    rw [hJ, adI_ne (Or.inl (by decide))]
    exact ⟨(ho k hk).1, by have := (ho k hk).2; omega⟩
  have hnu : nuC J o sp = nuC I o sp := nuC_cong (fun j hj => by rw [hJ]; exact ⟨adI_ne (Or.inr (by decide)), adI_ne (Or.inr (by decide))⟩)
  have htk : tkC J (nuC I o sp) n = tkC I (nuC I o sp) n := tkC_cong (fun j hj => by rw [hJ]; exact ⟨adI_ne (Or.inr (by decide)), adI_ne (Or.inr (by decide))⟩)
  show m_W S _ 44 [some (.ref 1), some (.int b), some (.int x1), some (.int (bi c2)), some (.int (bi c3)), some (.int x4), some (.int (nI sp)), some (.ref (scI n)), none] [] (hh (adI I n x1 (bi c2) (bi c3) x4) lg) 0 0
  rw [← hJ]
  refine ms_aload_n dX9_add_44 rfl ?_
  refine q_geti dX9_add_45 fX9_29 (by rw [kd_9_4]; decide) (by first | decide | exact lt_sc (by omega) | exact lt_dy (by omega) | exact lt_rw (by omega) | exact lt_wa (by omega) | exact lt_le (by omega)) (by first | rfl | rw [sh_sc (by omega)] | rw [sh_dy (by omega)]) rfl ?_
  refine ms_if_eq (tgt := 76) dX9_add_48 (by decide) (fun c48 => ?_) (fun c48 => ?_)
  · exact absurd c48 hlo'
  · refine ms_aload dX9_add_51 rfl ?_
    refine ms_aload_n dX9_add_53 rfl ?_
    refine ms_iload dX9_add_54 rfl ?_
    refine qRV1 dX9_add_56 kX9_37 (by show _ < 178; first | decide | exact lt_sc (by omega) | exact lt_dy (by omega)) (by show (sh0 _).1 = _; first | rfl | rw [sh_sc (by omega)] | rw [sh_dy (by omega)]) (d := d - 1) (by show d - 1 + 1 ≤ d; omega) rfl (Nat.le_of_ble_eq_true rfl) (Nat.le_of_ble_eq_true rfl) (k_numberAt (by omega) ho' hsp) rfl ?_
    refine q_puti dX9_add_59 fX9_55 pX9_8_6 kd_8_6 (by first | decide | exact lt_sc (by omega) | exact lt_dy (by omega) | exact lt_rw (by omega) | exact lt_wa (by omega) | exact lt_le (by omega)) (by first | rfl | rw [sh_sc (by omega)] | rw [sh_dy (by omega)]) ?_
    rw [hnu]
    have hm2 : m_up2 J (scI n) 6 (nuC I o sp) 1 3 = nI n := (m_up2_ne (by unfold scI; omega)).trans hm'
    have htk2 : tkC (m_up2 J (scI n) 6 (nuC I o sp)) (nuC I o sp) n = tkC I (nuC I o sp) n := (tkC_cong (fun j hj => ⟨m_up2_ne (by unfold scI; omega), m_up2_ne (by unfold scI; omega)⟩)).trans htk
    refine ms_aload dX9_add_62 rfl ?_
    refine ms_aload_n dX9_add_64 rfl ?_
    refine ms_aload dX9_add_65 rfl ?_
    refine q_geti dX9_add_67 fX9_55 (by rw [kd_8_6]; decide) (by first | decide | exact lt_sc (by omega) | exact lt_dy (by omega) | exact lt_rw (by omega) | exact lt_wa (by omega) | exact lt_le (by omega)) (by first | rfl | rw [sh_sc (by omega)] | rw [sh_dy (by omega)]) (by first | assumption | ((repeat ((with_reducible apply m_up2_tr); · first | omega | (intro z; (try unfold scI at z); (try unfold dyI at z); (try unfold rwI at z); (try unfold waI at z); (try unfold leI at z); omega))); first | assumption | exact m_up2_eq | rfl)) ?_
    refine qRV1 dX9_add_70 kX9_40 (by show _ < 178; first | decide | exact lt_sc (by omega) | exact lt_dy (by omega)) (by show (sh0 _).1 = _; first | rfl | rw [sh_sc (by omega)] | rw [sh_dy (by omega)]) (d := d - 1) (by show d - 1 + 1 ≤ d; omega) rfl (Nat.le_of_ble_eq_true rfl) (Nat.le_of_ble_eq_true rfl) (k_lowestLetter (by omega) hm2 (by omega) h1 h2 (by rw [htk2]; exact h3) (by rw [htk2]; exact h4)) rfl ?_
    refine q_puti dX9_add_73 fX9_58 pX9_8_7 kd_8_7 (by first | decide | exact lt_sc (by omega) | exact lt_dy (by omega) | exact lt_rw (by omega) | exact lt_wa (by omega) | exact lt_le (by omega)) (by first | rfl | rw [sh_sc (by omega)] | rw [sh_dy (by omega)]) ?_
    refine add_tail (I := lbI J n (nuC I o sp) (nI q)) ?_ hn hsp
    exact (lbI_ne (Or.inl (by decide))).trans hm'

