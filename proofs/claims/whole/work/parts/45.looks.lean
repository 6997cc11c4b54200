/-! Arrays.fill, over any heap -/
def flH (h : m_H) (t n : Nat) (x : Int32) : m_H := (h.1, h.2.1, flI h.2.2.1 t n x, h.2.2.2.1, h.2.2.2.2)
theorem k_fillH {S : m_S} {h : m_H} {d t n : Nat} (ht : t < h.1) (hk : (h.2.1 t).1 = 100) (hl : (h.2.1 t).2 = n) (hn : n < 1000) (x : Int32) : m_R S M_J7_fill_53178 d [.ref t, .int x] h none (flH h t n x) := by
  have loop : ∀ q k, k ≤ n → n - k < q → m_W S (M_J7_fill_53178, d, fun w g => w = none ∧ g = flH h t n x, fun _ _ => False) 5 [some (.ref t), some (.int x), some (.int (nI k)), some (.int (nI n))] [] (flH h t k x) 0 0 := by
    intro q
    induction q with
    | zero => intro k _ h; omega
    | succ q ih =>
      intro k hk9 hq
      refine ms_iload_n dJ7_fill_53178_5 rfl ?_
      refine ms_iload_n dJ7_fill_53178_6 rfl ?_
      refine n_icmp_ge (tgt := 20) dJ7_fill_53178_7 (by decide) (by omega) (by omega) (fun c7 => ?_) (fun c7 => ?_)
      · obtain rfl : k = n := by omega
        refine ms_vret dJ7_fill_53178_20 rfl rfl ⟨rfl, rfl⟩
      · refine ms_aload_n dJ7_fill_53178_10 rfl ?_
        refine ms_iload_n dJ7_fill_53178_11 rfl ?_
        refine ms_iload_n dJ7_fill_53178_12 rfl ?_
        refine ms_iast (i := t) (j := k) dJ7_fill_53178_13 ht hk (by show k < (h.2.1 t).2; omega) (by show (h.2.1 t).2 < _; omega) ?_
        refine n_iinc dJ7_fill_53178_14 rfl ?_
        refine ms_goto (tgt := 5) dJ7_fill_53178_17 (by decide) ?_
        have e : m_upI (flH h t k x) t k x = flH h t (k + 1) x := by
          unfold m_upI flH
          show (h.1, h.2.1, m_up2 (flI h.2.2.1 t k x) t k x, _, _) = _
          rw [flI_step]
        rw [e]
        exact ih (k + 1) (by omega) (by omega)
  refine ms_iconst (v := nI 0) dJ7_fill_53178_0 (by decide) ?_
  refine ms_istore_n dJ7_fill_53178_1 (Nat.le_of_ble_eq_true rfl) ?_
  refine ms_aload_n dJ7_fill_53178_2 rfl ?_
  refine ms_alen (v := nI n) dJ7_fill_53178_3 ht (by omega) (by rw [hl]; rfl) ?_
  refine ms_istore_n dJ7_fill_53178_4 (Nat.le_of_ble_eq_true rfl) ?_
  have h9 := loop (n + 1) 0 (by omega) (by omega)
  have e0 : flH h t 0 x = h := by
    unfold flH
    rw [flI_0]
  rw [e0] at h9
  exact h9
theorem k_fill {S : m_S} {I : m_I} {lg : Int64} {d t n : Nat} (ht : t < 178) (hs : sh0 t = (100, n)) (hn : n < 1000) (x : Int32) : m_R S M_J7_fill_53178 d [.ref t, .int x] (hh I lg) none (hh (flI I t n x) lg) := k_fillH (h := hh I lg) ht (by show (sh0 t).1 = _; rw [hs]) (by show (sh0 t).2 = _; rw [hs]) hn x
/-! looks -/
def anyB (p : Nat → Bool) : Nat → Bool
  | 0 => false
  | n + 1 => anyB p n || p n
theorem anyB_t {p : Nat → Bool} {n k : Nat} (hk : k < n) (h : p k = true) : anyB p n = true := by
  induction n with
  | zero => omega
  | succ n ih =>
    unfold anyB
    rcases Nat.lt_or_ge k n with z | z
    · rw [ih z]; rfl
    · rw [show n = k by omega, h, Bool.or_true]
theorem anyB_f {p : Nat → Bool} {n : Nat} : anyB p n = false ↔ ∀ k, k < n → p k = false := by
  induction n with
  | zero => exact ⟨fun _ k hk => absurd hk (Nat.not_lt_zero k), fun _ => rfl⟩
  | succ n ih =>
    unfold anyB
    rw [Bool.or_eq_false_iff, ih]
    refine ⟨fun z k hk => ?_, fun z => ⟨fun k hk => z k (by omega), z n (by omega)⟩⟩
    rcases Nat.lt_or_ge k n with y | y
    · exact z.1 k y
    · rw [show k = n by omega]; exact z.2
theorem anyB_cong {p r : Nat → Bool} {n : Nat} (h : ∀ k, k < n → p k = r k) : anyB p n = anyB r n := by
  induction n with
  | zero => rfl
  | succ n ih =>
    unfold anyB
    rw [ih (fun k hk => h k (by omega)), h n (by omega)]
def woP (I : m_I) (s t : Nat) : Bool := decide (¬ I (waI s) t = -1 ∧ ¬ I (waI s) t = I 4 t)
def woC (I : m_I) (s : Nat) : Bool := anyB (woP I s) 4
theorem k_wantsOther {S : m_S} {I : m_I} {lg : Int64} {d s : Nat} (hs : s < 20) : m_R S M_X9_wantsOther d [.ref 1, .ref (scI s)] (hh I lg) (some (.int (bi (woC I s)))) (hh I lg) := by
  have loop : ∀ (q k : Nat) (hf : anyB (woP I s) k = false), k ≤ 4 → 4 - k < q → m_W S (M_X9_wantsOther, d, fun w9 g9 => w9 = some (.int (bi (woC I s))) ∧ g9 = hh (I) lg, fun _ _ => False) 2 [some (.ref 1), some (.ref (scI s)), some (.int (nI k))] [] (hh (I) lg) 0 0 := by
    intro q
    induction q with
    | zero => intro k hf _ h; omega
    | succ q ih =>
      intro k hf hk hq
      refine ms_iload_n dX9_wantsOther_2 rfl ?_
      refine ms_iconst (v := nI 4) dX9_wantsOther_3 (by decide) ?_
      refine n_icmp_ge (tgt := 40) dX9_wantsOther_4 (by decide) (by omega) (by omega) (fun c4 => ?_) (fun c4 => ?_)
      · obtain rfl : k = 4 := by omega
        refine ms_iconst (v := nI 0) dX9_wantsOther_40 (by decide) ?_
        refine ms_zret dX9_wantsOther_41 rfl rfl (by first | exact Or.inl (by decide) | exact Or.inr (by decide) | assumption | exact bi_01 _) ⟨?_, ?_⟩
        · unfold woC; rw [hf]; rfl
        · rfl
      · refine ms_aload_n dX9_wantsOther_7 rfl ?_
        refine q_getr dX9_wantsOther_8 fX9_92 kd_8_8 (by first | decide | exact lt_sc (by omega) | exact lt_dy (by omega) | exact lt_rw (by omega) | exact lt_wa (by omega) | exact lt_le (by omega)) (by first | rfl | rw [sh_sc (by omega)] | rw [sh_dy (by omega)]) (by first | rfl | exact rf_wa (by omega) | exact rf_le (by omega) | exact rf_rw (by omega)) ?_
        refine ms_iload_n dX9_wantsOther_11 rfl ?_
        refine q_iald dX9_wantsOther_12 (by first | decide | exact lt_sc (by omega) | exact lt_dy (by omega) | exact lt_rw (by omega) | exact lt_wa (by omega) | exact lt_le (by omega)) (by first | rfl | exact sh_rw (by omega) | exact sh_wa (by omega) | exact sh_le (by omega)) (by omega) (by decide) rfl ?_
        refine ms_iconst (v := -1) dX9_wantsOther_13 (by decide) ?_
        refine ms_icmp_eq (tgt := 34) dX9_wantsOther_14 (by decide) (fun c14 => ?_) (fun c14 => ?_)
        · have e : woP I s k = false := decide_eq_false (fun z => z.1 c14)
          refine n_iinc dX9_wantsOther_34 rfl ?_
          refine ms_goto (tgt := 2) dX9_wantsOther_37 (by decide) ?_
          exact ih (k + 1) (by unfold anyB; rw [hf, e]; rfl) (by omega) (by omega)
        · refine ms_aload_n dX9_wantsOther_17 rfl ?_
          refine q_getr dX9_wantsOther_18 fX9_92 kd_8_8 (by first | decide | exact lt_sc (by omega) | exact lt_dy (by omega) | exact lt_rw (by omega) | exact lt_wa (by omega) | exact lt_le (by omega)) (by first | rfl | rw [sh_sc (by omega)] | rw [sh_dy (by omega)]) (by first | rfl | exact rf_wa (by omega) | exact rf_le (by omega) | exact rf_rw (by omega)) ?_
          refine ms_iload_n dX9_wantsOther_21 rfl ?_
          refine q_iald dX9_wantsOther_22 (by first | decide | exact lt_sc (by omega) | exact lt_dy (by omega) | exact lt_rw (by omega) | exact lt_wa (by omega) | exact lt_le (by omega)) (by first | rfl | exact sh_rw (by omega) | exact sh_wa (by omega) | exact sh_le (by omega)) (by omega) (by decide) rfl ?_
          refine ms_aload_n dX9_wantsOther_23 rfl ?_
          refine q_getr dX9_wantsOther_24 fX9_21 kd_9_2 (by first | decide | exact lt_sc (by omega) | exact lt_dy (by omega) | exact lt_rw (by omega) | exact lt_wa (by omega) | exact lt_le (by omega)) (by first | rfl | rw [sh_sc (by omega)] | rw [sh_dy (by omega)]) (by first | rfl | exact rf_wa (by omega) | exact rf_le (by omega) | exact rf_rw (by omega)) ?_
          refine ms_iload_n dX9_wantsOther_27 rfl ?_
          refine q_iald dX9_wantsOther_28 (by first | decide | exact lt_sc (by omega) | exact lt_dy (by omega) | exact lt_rw (by omega) | exact lt_wa (by omega) | exact lt_le (by omega)) (by first | rfl | exact sh_rw (by omega) | exact sh_wa (by omega) | exact sh_le (by omega)) (by omega) (by decide) rfl ?_
          refine ms_icmp_eq (tgt := 34) dX9_wantsOther_29 (by decide) (fun c29 => ?_) (fun c29 => ?_)
          · have e : woP I s k = false := decide_eq_false (fun z => z.2 c29)
            refine n_iinc dX9_wantsOther_34 rfl ?_
            refine ms_goto (tgt := 2) dX9_wantsOther_37 (by decide) ?_
            exact ih (k + 1) (by unfold anyB; rw [hf, e]; rfl) (by omega) (by omega)
          · have e : woC I s = true := anyB_t (k := k) (by omega) (decide_eq_true ⟨c14, c29⟩)
            refine ms_iconst (v := nI 1) dX9_wantsOther_32 (by decide) ?_
            refine ms_zret dX9_wantsOther_33 rfl rfl (by first | exact Or.inl (by decide) | exact Or.inr (by decide) | assumption | exact bi_01 _) ⟨?_, ?_⟩
            · rw [e]; rfl
            · rfl
  refine ms_iconst (v := nI 0) dX9_wantsOther_0 (by decide) ?_
  refine ms_istore_n dX9_wantsOther_1 (Nat.le_of_ble_eq_true rfl) ?_
  exact loop 5 0 rfl (by omega) (by omega)
def lvI (I : m_I) (s : Nat) : Nat → m_I
  | 0 => I
  | k + 1 => if I (leI s) k = -1 then lvI I s k else m_up2 (lvI I s k) 4 k (I (leI s) k)
theorem lvI_ne {I : m_I} {s k a b : Nat} (h : a ≠ 4) : lvI I s k a b = I a b := by
  induction k with
  | zero => rfl
  | succ k ih =>
    unfold lvI
    split
    · exact ih
    · exact (m_up2_ne (by omega)).trans ih
theorem k_leaveLooks {S : m_S} {I : m_I} {lg : Int64} {d s : Nat} (hs : s < 20) : m_R S M_X9_leaveLooks d [.ref 1, .ref (scI s)] (hh I lg) none (hh (lvI I s 4) lg) := by
  have loop : ∀ (q k : Nat), k ≤ 4 → 4 - k < q → m_W S (M_X9_leaveLooks, d, fun w9 g9 => w9 = none ∧ g9 = hh (lvI I s 4) lg, fun _ _ => False) 2 [some (.ref 1), some (.ref (scI s)), some (.int (nI k))] [] (hh (lvI I s k) lg) 0 0 := by
    intro q
    induction q with
    | zero => intro k  _ h; omega
    | succ q ih =>
      intro k  hk hq
      have hv : lvI I s k (leI s) k = I (leI s) k := lvI_ne (by unfold leI; omega)
      refine ms_iload_n dX9_leaveLooks_2 rfl ?_
      refine ms_iconst (v := nI 4) dX9_leaveLooks_3 (by decide) ?_
      refine n_icmp_ge (tgt := 35) dX9_leaveLooks_4 (by decide) (by omega) (by omega) (fun c4 => ?_) (fun c4 => ?_)
      · obtain rfl : k = 4 := by omega
        refine ms_vret dX9_leaveLooks_35 rfl rfl ⟨rfl, ?_⟩
        · rfl
      · refine ms_aload_n dX9_leaveLooks_7 rfl ?_
        refine q_getr dX9_leaveLooks_8 fX9_95 kd_8_9 (by first | decide | exact lt_sc (by omega) | exact lt_dy (by omega) | exact lt_rw (by omega) | exact lt_wa (by omega) | exact lt_le (by omega)) (by first | rfl | rw [sh_sc (by omega)] | rw [sh_dy (by omega)]) (by first | rfl | exact rf_wa (by omega) | exact rf_le (by omega) | exact rf_rw (by omega)) ?_
        refine ms_iload_n dX9_leaveLooks_11 rfl ?_
        refine q_iald dX9_leaveLooks_12 (by first | decide | exact lt_sc (by omega) | exact lt_dy (by omega) | exact lt_rw (by omega) | exact lt_wa (by omega) | exact lt_le (by omega)) (by first | rfl | exact sh_rw (by omega) | exact sh_wa (by omega) | exact sh_le (by omega)) (by omega) (by decide) (by first | assumption | ((repeat ((with_reducible apply m_up2_tr); · first | omega | (intro z; (try unfold scI at z); (try unfold dyI at z); (try unfold rwI at z); (try unfold waI at z); (try unfold leI at z); omega))); first | assumption | exact m_up2_eq | rfl)) ?_
        refine ms_iconst (v := -1) dX9_leaveLooks_13 (by decide) ?_
        refine ms_icmp_eq (tgt := 29) dX9_leaveLooks_14 (by decide) (fun c14 => ?_) (fun c14 => ?_)
        · have e : lvI I s (k + 1) = lvI I s k := if_pos c14
          have h9 := ih (k + 1) (by omega) (by omega)
          rw [e] at h9
          refine n_iinc dX9_leaveLooks_29 rfl ?_
          refine ms_goto (tgt := 2) dX9_leaveLooks_32 (by decide) ?_
          exact h9
        · have e : lvI I s (k + 1) = m_up2 (lvI I s k) 4 k (I (leI s) k) := if_neg c14
          have h9 := ih (k + 1) (by omega) (by omega)
          rw [e] at h9
          refine ms_aload_n dX9_leaveLooks_17 rfl ?_
          refine q_getr dX9_leaveLooks_18 fX9_21 kd_9_2 (by first | decide | exact lt_sc (by omega) | exact lt_dy (by omega) | exact lt_rw (by omega) | exact lt_wa (by omega) | exact lt_le (by omega)) (by first | rfl | rw [sh_sc (by omega)] | rw [sh_dy (by omega)]) (by first | rfl | exact rf_wa (by omega) | exact rf_le (by omega) | exact rf_rw (by omega)) ?_
          refine ms_iload_n dX9_leaveLooks_21 rfl ?_
          refine ms_aload_n dX9_leaveLooks_22 rfl ?_
          refine q_getr dX9_leaveLooks_23 fX9_95 kd_8_9 (by first | decide | exact lt_sc (by omega) | exact lt_dy (by omega) | exact lt_rw (by omega) | exact lt_wa (by omega) | exact lt_le (by omega)) (by first | rfl | rw [sh_sc (by omega)] | rw [sh_dy (by omega)]) (by first | rfl | exact rf_wa (by omega) | exact rf_le (by omega) | exact rf_rw (by omega)) ?_
          refine ms_iload_n dX9_leaveLooks_26 rfl ?_
          refine q_iald dX9_leaveLooks_27 (by first | decide | exact lt_sc (by omega) | exact lt_dy (by omega) | exact lt_rw (by omega) | exact lt_wa (by omega) | exact lt_le (by omega)) (by first | rfl | exact sh_rw (by omega) | exact sh_wa (by omega) | exact sh_le (by omega)) (by omega) (by decide) (by first | assumption | ((repeat ((with_reducible apply m_up2_tr); · first | omega | (intro z; (try unfold scI at z); (try unfold dyI at z); (try unfold rwI at z); (try unfold waI at z); (try unfold leI at z); omega))); first | assumption | exact m_up2_eq | rfl)) ?_
          refine q_iast dX9_leaveLooks_28 (by first | decide | exact lt_sc (by omega) | exact lt_dy (by omega) | exact lt_rw (by omega) | exact lt_wa (by omega) | exact lt_le (by omega)) (by first | rfl | exact sh_rw (by omega) | exact sh_wa (by omega) | exact sh_le (by omega)) (by omega) (by decide) ?_
          refine n_iinc dX9_leaveLooks_29 rfl ?_
          refine ms_goto (tgt := 2) dX9_leaveLooks_32 (by decide) ?_
          exact h9
  refine ms_iconst (v := nI 0) dX9_leaveLooks_0 (by decide) ?_
  refine ms_istore_n dX9_leaveLooks_1 (Nat.le_of_ble_eq_true rfl) ?_
  exact loop 5 0 (by omega) (by omega)
def clB (J : m_I) (s : Nat) : Bool := decide (J (scI s) 11 = 0) && woC J s
def fcJ (I : m_I) (o : Nat → Nat) : Nat → m_I
  | 0 => flI I 4 4 (nI 0)
  | k + 1 => if fcJ I o k (scI (o k)) 11 = 0 then lvI (m_up2 (fcJ I o k) (scI (o k)) 10 (bi (clB (fcJ I o k) (o k)))) (o k) 4 else m_up2 (fcJ I o k) (scI (o k)) 10 (bi (clB (fcJ I o k) (o k)))
def fcN (I : m_I) (o : Nat → Nat) (k : Nat) : Nat := fb_ct (fun j => clB (fcJ I o j) (o j)) k
theorem fcJ_ne {I : m_I} {o : Nat → Nat} {k a b : Nat} (h : a ≠ 4) (h2 : b ≠ 10 ∨ a < 5) : fcJ I o k a b = I a b := by
  induction k with
  | zero => exact if_neg (fun z => h z.1)
  | succ k ih =>
    unfold fcJ
    have e : ¬ (a = scI (o k) ∧ b = 10) := by unfold scI; omega
    split
    · exact (lvI_ne h).trans ((m_up2_ne e).trans ih)
    · exact (m_up2_ne e).trans ih
theorem k_findClashes {S : m_S} {I : m_I} {lg : Int64} {d m : Nat} {o : Nat → Nat} (hd : 2 ≤ d) (hm : I 1 3 = nI m) (hm2 : m ≤ 20) (ho : ∀ k, k < m → I 3 k = nI (o k) ∧ o k < 20) : m_R S M_X9_findClashes d [.ref 1] (hh I lg) (some (.int (nI (fcN I o m)))) (hh (fcJ I o m) lg) := by
  have loop : ∀ (q k : Nat) (d3 : Option Value), k ≤ m → m - k < q → m_W S (M_X9_findClashes, d, fun w g => w = some (.int (nI (fcN I o m))) ∧ g = hh (fcJ I o m) lg, fun _ _ => False) 12 [some (.ref 1), some (.int (nI (fcN I o k))), some (.int (nI k)), d3] [] (hh (fcJ I o k) lg) 0 0 := by
    intro q
    induction q with
    | zero => intro k _ _ h; omega
    | succ q ih =>
      intro k d3 hk hq
      have hm' : fcJ I o k 1 3 = nI m := (fcJ_ne (by decide) (Or.inr (by decide))).trans hm
      refine ms_iload_n dX9_findClashes_12 rfl ?_
      refine ms_aload_n dX9_findClashes_13 rfl ?_
      refine q_geti dX9_findClashes_14 fX9_25 (by rw [kd_9_3]; decide) (by first | decide | exact lt_sc (by omega) | exact lt_dy (by omega) | exact lt_rw (by omega) | exact lt_wa (by omega) | exact lt_le (by omega)) (by first | rfl | rw [sh_sc (by omega)] | rw [sh_dy (by omega)]) (by first | assumption | ((repeat ((with_reducible apply m_up2_tr); · first | omega | (intro z; (try unfold scI at z); (try unfold dyI at z); (try unfold rwI at z); (try unfold waI at z); (try unfold leI at z); omega))); first | assumption | exact m_up2_eq | rfl)) ?_
      refine n_icmp_ge (tgt := 84) dX9_findClashes_17 (by decide) (by omega) (by omega) (fun c17 => ?_) (fun c17 => ?_)
      · obtain rfl : k = m := by omega
        refine ms_iload_n dX9_findClashes_84 rfl ?_
        refine ms_iret dX9_findClashes_85 rfl rfl ⟨?_, ?_⟩
        · rfl
        · rfl
      · obtain ⟨hk1, hk2⟩ := ho k (by omega)
        have hk1' : fcJ I o k 3 k = nI (o k) := (fcJ_ne (by decide) (Or.inr (by decide))).trans hk1
        have hN : fcN I o (k + 1) = fcN I o k + if clB (fcJ I o k) (o k) then 1 else 0 := fb_ct_succ _ k
        have h9 := fun d3 => ih (k + 1) d3 (by omega) (by omega)
        have back : m_W S (M_X9_findClashes, d, fun w g => w = some (.int (nI (fcN I o m))) ∧ g = hh (fcJ I o m) lg, fun _ _ => False) 53 [some (.ref 1), some (.int (nI (fcN I o k))), some (.int (nI k)), some (.ref (scI (o k)))] [.int (bi (clB (fcJ I o k) (o k))), .ref (scI (o k))] (hh (fcJ I o k) lg) 0 0 := by
          have hz := bi_01 (clB (fcJ I o k) (o k))
          obtain ⟨J, hJ⟩ : ∃ J, J = m_up2 (fcJ I o k) (scI (o k)) 10 (bi (clB (fcJ I o k) (o k))) := ⟨_, rfl⟩
          have hJ1 : J (scI (o k)) 10 = bi (clB (fcJ I o k) (o k)) := by rw [hJ]; exact m_up2_eq
          have hJ2 : J (scI (o k)) 11 = fcJ I o k (scI (o k)) 11 := by rw [hJ]; exact m_up2_ne (by omega)
          have tail : m_W S (M_X9_findClashes, d, fun w g => w = some (.int (nI (fcN I o m))) ∧ g = hh (fcJ I o m) lg, fun _ _ => False) 66 [some (.ref 1), some (.int (nI (fcN I o (k + 1)))), some (.int (nI k)), some (.ref (scI (o k)))] [] (hh J lg) 0 0 := by
            refine ms_aload_n dX9_findClashes_66 rfl ?_
            refine q_geti dX9_findClashes_67 fX9_78 (by rw [kd_8_11]; decide) (by first | decide | exact lt_sc (by omega) | exact lt_dy (by omega) | exact lt_rw (by omega) | exact lt_wa (by omega) | exact lt_le (by omega)) (by first | rfl | rw [sh_sc (by omega)] | rw [sh_dy (by omega)]) (by first | assumption | ((repeat ((with_reducible apply m_up2_tr); · first | omega | (intro z; (try unfold scI at z); (try unfold dyI at z); (try unfold rwI at z); (try unfold waI at z); (try unfold leI at z); omega))); first | assumption | exact m_up2_eq | rfl)) ?_
            refine ms_if_ne (tgt := 78) dX9_findClashes_70 (by decide) (fun c70 => ?_) (fun c70 => ?_)
            · have e : fcJ I o (k + 1) = J := by
                rw [hJ]
                exact if_neg c70
              refine n_iinc dX9_findClashes_78 rfl ?_
              refine ms_goto (tgt := 12) dX9_findClashes_81 (by decide) ?_
              have h8 := h9 (some (.ref (scI (o k))))
              rw [e] at h8
              exact h8
            · have e : fcJ I o (k + 1) = lvI J (o k) 4 := by
                rw [hJ]
                exact if_pos c70
              refine ms_aload_n dX9_findClashes_73 rfl ?_
              refine ms_aload_n dX9_findClashes_74 rfl ?_
              refine qRV1 dX9_findClashes_75 kX9_88 (by show _ < 178; first | decide | exact lt_sc (by omega) | exact lt_dy (by omega)) (by show (sh0 _).1 = _; first | rfl | rw [sh_sc (by omega)] | rw [sh_dy (by omega)]) (d := d - 1) (by show d - 1 + 1 ≤ d; omega) rfl (Nat.le_of_ble_eq_true rfl) (Nat.le_of_ble_eq_true rfl) (k_leaveLooks hk2) rfl ?_
              refine n_iinc dX9_findClashes_78 rfl ?_
              refine ms_goto (tgt := 12) dX9_findClashes_81 (by decide) ?_
              have h8 := h9 (some (.ref (scI (o k))))
              rw [e] at h8
              exact h8
          refine q_putz dX9_findClashes_53 fX9_85 pX9_8_10 kd_8_10 (by first | decide | exact lt_sc (by omega) | exact lt_dy (by omega) | exact lt_rw (by omega) | exact lt_wa (by omega) | exact lt_le (by omega)) (by first | rfl | rw [sh_sc (by omega)] | rw [sh_dy (by omega)]) (by first | exact Or.inl (by decide) | exact Or.inr (by decide) | assumption | exact bi_01 _) ?_
          rw [← hJ]
          refine ms_aload_n dX9_findClashes_56 rfl ?_
          refine q_geti dX9_findClashes_57 fX9_85 (by rw [kd_8_10]; decide) (by first | decide | exact lt_sc (by omega) | exact lt_dy (by omega) | exact lt_rw (by omega) | exact lt_wa (by omega) | exact lt_le (by omega)) (by first | rfl | rw [sh_sc (by omega)] | rw [sh_dy (by omega)]) (by first | assumption | ((repeat ((with_reducible apply m_up2_tr); · first | omega | (intro z; (try unfold scI at z); (try unfold dyI at z); (try unfold rwI at z); (try unfold waI at z); (try unfold leI at z); omega))); first | assumption | exact m_up2_eq | rfl)) ?_
          refine ms_if_eq (tgt := 66) dX9_findClashes_60 (by decide) (fun c60 => ?_) (fun c60 => ?_)
          · have e : clB (fcJ I o k) (o k) = false := bi_0.mp c60
            rw [e] at hN
            simp only [Bool.false_eq_true, if_false, Nat.add_zero] at hN
            rw [hN] at tail
            exact tail
          · have e : clB (fcJ I o k) (o k) = true := bi_n0.mp c60
            rw [e] at hN
            simp only [if_true] at hN
            rw [hN] at tail
            refine n_iinc dX9_findClashes_63 rfl ?_
            exact tail
        refine ms_aload_n dX9_findClashes_20 rfl ?_
        refine q_getr dX9_findClashes_21 fX9_11 kd_9_0 (by first | decide | exact lt_sc (by omega) | exact lt_dy (by omega) | exact lt_rw (by omega) | exact lt_wa (by omega) | exact lt_le (by omega)) (by first | rfl | rw [sh_sc (by omega)] | rw [sh_dy (by omega)]) (by first | rfl | exact rf_wa (by omega) | exact rf_le (by omega) | exact rf_rw (by omega)) ?_
        refine ms_aload_n dX9_findClashes_24 rfl ?_
        refine q_getr dX9_findClashes_25 fX9_17 kd_9_1 (by first | decide | exact lt_sc (by omega) | exact lt_dy (by omega) | exact lt_rw (by omega) | exact lt_wa (by omega) | exact lt_le (by omega)) (by first | rfl | rw [sh_sc (by omega)] | rw [sh_dy (by omega)]) (by first | rfl | exact rf_wa (by omega) | exact rf_le (by omega) | exact rf_rw (by omega)) ?_
        refine ms_iload_n dX9_findClashes_28 rfl ?_
        refine q_iald dX9_findClashes_29 (by first | decide | exact lt_sc (by omega) | exact lt_dy (by omega) | exact lt_rw (by omega) | exact lt_wa (by omega) | exact lt_le (by omega)) (by first | rfl | exact sh_rw (by omega) | exact sh_wa (by omega) | exact sh_le (by omega)) (by omega) (by decide) (by first | assumption | ((repeat ((with_reducible apply m_up2_tr); · first | omega | (intro z; (try unfold scI at z); (try unfold dyI at z); (try unfold rwI at z); (try unfold waI at z); (try unfold leI at z); omega))); first | assumption | exact m_up2_eq | rfl)) ?_
        refine q_aald dX9_findClashes_30 (by first | exact Or.inl ⟨rfl, by omega, rfl⟩ | exact Or.inr ⟨rfl, by omega, rfl⟩) ?_
        refine ms_astore_n dX9_findClashes_31 (Nat.le_of_ble_eq_true rfl) ?_
        refine ms_aload_n dX9_findClashes_32 rfl ?_
        refine ms_aload_n dX9_findClashes_33 rfl ?_
        refine q_geti dX9_findClashes_34 fX9_78 (by rw [kd_8_11]; decide) (by first | decide | exact lt_sc (by omega) | exact lt_dy (by omega) | exact lt_rw (by omega) | exact lt_wa (by omega) | exact lt_le (by omega)) (by first | rfl | rw [sh_sc (by omega)] | rw [sh_dy (by omega)]) (by first | assumption | ((repeat ((with_reducible apply m_up2_tr); · first | omega | (intro z; (try unfold scI at z); (try unfold dyI at z); (try unfold rwI at z); (try unfold waI at z); (try unfold leI at z); omega))); first | assumption | exact m_up2_eq | rfl)) ?_
        refine ms_if_ne (tgt := 52) dX9_findClashes_37 (by decide) (fun c37 => ?_) (fun c37 => ?_)
        · have e : clB (fcJ I o k) (o k) = false := by unfold clB; rw [decide_eq_false c37]; rfl
          have b9 := back
          rw [e] at b9
          refine ms_iconst (v := nI 0) dX9_findClashes_52 (by decide) ?_
          exact b9
        · have e0 : clB (fcJ I o k) (o k) = woC (fcJ I o k) (o k) := by unfold clB; rw [decide_eq_true c37]; rfl
          refine ms_aload_n dX9_findClashes_40 rfl ?_
          refine ms_aload_n dX9_findClashes_41 rfl ?_
          refine qRV1 dX9_findClashes_42 kX9_81 (by show _ < 178; first | decide | exact lt_sc (by omega) | exact lt_dy (by omega)) (by show (sh0 _).1 = _; first | rfl | rw [sh_sc (by omega)] | rw [sh_dy (by omega)]) (d := d - 1) (by show d - 1 + 1 ≤ d; omega) rfl (Nat.le_of_ble_eq_true rfl) (Nat.le_of_ble_eq_true rfl) (k_wantsOther hk2) rfl ?_
          refine ms_if_eq (tgt := 52) dX9_findClashes_45 (by decide) (fun c45 => ?_) (fun c45 => ?_)
          · have e : clB (fcJ I o k) (o k) = false := e0.trans (bi_0.mp c45)
            have b9 := back
            rw [e] at b9
            refine ms_iconst (v := nI 0) dX9_findClashes_52 (by decide) ?_
            exact b9
          · have e : clB (fcJ I o k) (o k) = true := e0.trans (bi_n0.mp c45)
            have b9 := back
            rw [e] at b9
            refine ms_iconst (v := nI 1) dX9_findClashes_48 (by decide) ?_
            refine ms_goto (tgt := 53) dX9_findClashes_49 (by decide) ?_
            exact b9
  refine ms_aload_n dX9_findClashes_0 rfl ?_
  refine q_getr dX9_findClashes_1 fX9_21 kd_9_2 (by first | decide | exact lt_sc (by omega) | exact lt_dy (by omega) | exact lt_rw (by omega) | exact lt_wa (by omega) | exact lt_le (by omega)) (by first | rfl | rw [sh_sc (by omega)] | rw [sh_dy (by omega)]) (by first | rfl | exact rf_wa (by omega) | exact rf_le (by omega) | exact rf_rw (by omega)) ?_
  refine ms_iconst (v := nI 0) dX9_findClashes_4 (by decide) ?_
  refine qRS2 dX9_findClashes_5 kX9_72 (d := d - 1) (by show d - 1 + 1 ≤ d; omega) rfl rfl (Nat.le_of_ble_eq_true rfl) (Nat.le_of_ble_eq_true rfl) (k_fill (by decide) rfl (by decide) _) rfl ?_
  refine ms_iconst (v := nI 0) dX9_findClashes_8 (by decide) ?_
  refine ms_istore_n dX9_findClashes_9 (Nat.le_of_ble_eq_true rfl) ?_
  refine ms_iconst (v := nI 0) dX9_findClashes_10 (by decide) ?_
  refine ms_istore_n dX9_findClashes_11 (Nat.le_of_ble_eq_true rfl) ?_
  exact loop (m + 1) 0 none (by omega) (by omega)

