/-! Script: what binds -/
def rIn (I : m_I) (r : Int32) : Nat → Int32
  | 0 => r
  | i + 1 => if bt (rIn I r i) i then rIn I r i ||| I (scI i) 5 else rIn I r i
def rOut (I : m_I) (m : Nat) (r : Int32) : Nat → Int32
  | 0 => r
  | k + 1 => rIn I (rOut I m r k) m
theorem k_leadsTo {S : m_S} {I : m_I} {lg : Int64} {d m a g : Nat} (hd : 2 ≤ d) (hm : I 1 3 = nI m) (hm2 : m ≤ 20) (hg : g < 20) : m_R S M_X9_leadsTo d [.ref 1, .int (nI a), .int (nI g)] (hh I lg) (some (.int (bi (bt (rOut I m (nI 1 <<< (nI a &&& 31)) m) g)))) (hh I lg) := by
  obtain ⟨r, hr⟩ : ∃ r, r = nI 1 <<< (nI a &&& 31) := ⟨_, rfl⟩
  have inner : ∀ (k : Nat) (kk : ∀ d5, m_W S (M_X9_leadsTo, d, fun w g9 => w = some (.int (bi (bt (rOut I m r m) g))) ∧ g9 = hh I lg, fun _ _ => False) 56 [some (.ref 1), some (.int (nI a)), some (.int (nI g)), some (.int (rOut I m r (k + 1))), some (.int (nI k)), d5] [] (hh I lg) 0 0) (q i : Nat), i ≤ m → m - i < q → m_W S (M_X9_leadsTo, d, fun w g9 => w = some (.int (bi (bt (rOut I m r m) g))) ∧ g9 = hh I lg, fun _ _ => False) 19 [some (.ref 1), some (.int (nI a)), some (.int (nI g)), some (.int (rIn I (rOut I m r k) i)), some (.int (nI k)), some (.int (nI i))] [] (hh I lg) 0 0 := by
    intro k kk q
    induction q with
    | zero => intro i _ h; omega
    | succ q ih =>
      intro i hi hq
      refine ms_iload dX9_leadsTo_19 rfl ?_
      refine ms_aload_n dX9_leadsTo_21 rfl ?_
      refine q_geti dX9_leadsTo_22 fX9_25 (by rw [kd_9_3]; decide) (by first | decide | exact lt_sc (by omega) | exact lt_dy (by omega) | exact lt_rw (by omega) | exact lt_wa (by omega) | exact lt_le (by omega)) (by first | rfl | rw [sh_sc (by omega)] | rw [sh_dy (by omega)]) (by first | assumption | ((repeat ((with_reducible apply m_up2_tr); · first | omega | (intro z; (try unfold scI at z); (try unfold dyI at z); (try unfold rwI at z); (try unfold waI at z); (try unfold leI at z); omega))); first | assumption | exact m_up2_eq | rfl)) ?_
      refine n_icmp_ge (tgt := 56) dX9_leadsTo_25 (by decide) (by omega) (by omega) (fun c25 => ?_) (fun c25 => ?_)
      · obtain rfl : i = m := by omega
        exact kk _
      · have h9 := ih (i + 1) (by omega) (by omega)
        refine ms_iload_n dX9_leadsTo_28 rfl ?_
        refine ms_iload dX9_leadsTo_29 rfl ?_
        refine qRN2 dX9_leadsTo_31 kX9_64 (d := d - 1) (by show d - 1 + 1 ≤ d; omega) rfl rfl (Nat.le_of_ble_eq_true rfl) (Nat.le_of_ble_eq_true rfl) (k_hasBit (b := i) _ (by omega)) rfl ?_
        refine ms_if_eq (tgt := 50) dX9_leadsTo_34 (by decide) (fun c34 => ?_) (fun c34 => ?_)
        · have e : bt (rIn I (rOut I m r k) i) i = false := bi_0.mp c34
          have e2 : rIn I (rOut I m r k) (i + 1) = rIn I (rOut I m r k) i := if_neg (by rw [e]; exact Bool.false_ne_true)
          rw [e2] at h9
          refine n_iinc dX9_leadsTo_50 rfl ?_
          refine ms_goto (tgt := 19) dX9_leadsTo_53 (by decide) ?_
          exact h9
        · have e : bt (rIn I (rOut I m r k) i) i = true := bi_n0.mp c34
          have e2 : rIn I (rOut I m r k) (i + 1) = rIn I (rOut I m r k) i ||| I (scI i) 5 := if_pos e
          rw [e2] at h9
          refine ms_iload_n dX9_leadsTo_37 rfl ?_
          refine ms_aload_n dX9_leadsTo_38 rfl ?_
          refine q_getr dX9_leadsTo_39 fX9_11 kd_9_0 (by first | decide | exact lt_sc (by omega) | exact lt_dy (by omega) | exact lt_rw (by omega) | exact lt_wa (by omega) | exact lt_le (by omega)) (by first | rfl | rw [sh_sc (by omega)] | rw [sh_dy (by omega)]) (by first | rfl | exact rf_wa (by omega) | exact rf_le (by omega) | exact rf_rw (by omega)) ?_
          refine ms_iload dX9_leadsTo_42 rfl ?_
          refine q_aald dX9_leadsTo_44 (by first | exact Or.inl ⟨rfl, by omega, rfl⟩ | exact Or.inr ⟨rfl, by omega, rfl⟩) ?_
          refine q_geti dX9_leadsTo_45 fX9_98 (by rw [kd_8_5]; decide) (by first | decide | exact lt_sc (by omega) | exact lt_dy (by omega) | exact lt_rw (by omega) | exact lt_wa (by omega) | exact lt_le (by omega)) (by first | rfl | rw [sh_sc (by omega)] | rw [sh_dy (by omega)]) rfl ?_
          refine ms_ior dX9_leadsTo_48 ?_
          refine ms_istore_n dX9_leadsTo_49 (Nat.le_of_ble_eq_true rfl) ?_
          refine n_iinc dX9_leadsTo_50 rfl ?_
          refine ms_goto (tgt := 19) dX9_leadsTo_53 (by decide) ?_
          exact h9
  have outer : ∀ (q k : Nat) (d5 : Option Value), k ≤ m → m - k < q → m_W S (M_X9_leadsTo, d, fun w g9 => w = some (.int (bi (bt (rOut I m r m) g))) ∧ g9 = hh I lg, fun _ _ => False) 7 [some (.ref 1), some (.int (nI a)), some (.int (nI g)), some (.int (rOut I m r k)), some (.int (nI k)), d5] [] (hh I lg) 0 0 := by
    intro q
    induction q with
    | zero => intro k _ _ h; omega
    | succ q ih =>
      intro k d5 hk hq
      refine ms_iload dX9_leadsTo_7 rfl ?_
      refine ms_aload_n dX9_leadsTo_9 rfl ?_
      refine q_geti dX9_leadsTo_10 fX9_25 (by rw [kd_9_3]; decide) (by first | decide | exact lt_sc (by omega) | exact lt_dy (by omega) | exact lt_rw (by omega) | exact lt_wa (by omega) | exact lt_le (by omega)) (by first | rfl | rw [sh_sc (by omega)] | rw [sh_dy (by omega)]) (by first | assumption | ((repeat ((with_reducible apply m_up2_tr); · first | omega | (intro z; (try unfold scI at z); (try unfold dyI at z); (try unfold rwI at z); (try unfold waI at z); (try unfold leI at z); omega))); first | assumption | exact m_up2_eq | rfl)) ?_
      refine n_icmp_ge (tgt := 62) dX9_leadsTo_13 (by decide) (by omega) (by omega) (fun c13 => ?_) (fun c13 => ?_)
      · obtain rfl : k = m := by omega
        refine ms_iload_n dX9_leadsTo_62 rfl ?_
        refine ms_iload_n dX9_leadsTo_63 rfl ?_
        refine qRN2 dX9_leadsTo_64 kX9_64 (d := d - 1) (by show d - 1 + 1 ≤ d; omega) rfl rfl (Nat.le_of_ble_eq_true rfl) (Nat.le_of_ble_eq_true rfl) (k_hasBit (b := g) _ (by omega)) rfl ?_
        refine ms_zret dX9_leadsTo_67 rfl rfl (by first | exact Or.inl (by decide) | exact Or.inr (by decide) | assumption | exact bi_01 _) ⟨?_, ?_⟩
        · rfl
        · rfl
      · refine ms_iconst (v := nI 0) dX9_leadsTo_16 (by decide) ?_
        refine ms_istore dX9_leadsTo_17 (Nat.le_of_ble_eq_true rfl) ?_
        refine inner k (fun d5 => ?_) (m + 1) 0 (by omega) (by omega)
        refine n_iinc dX9_leadsTo_56 rfl ?_
        refine ms_goto (tgt := 7) dX9_leadsTo_59 (by decide) ?_
        exact ih (k + 1) _ (by omega) (by omega)
  rw [← hr]
  refine ms_iconst (v := nI 1) dX9_leadsTo_0 (by decide) ?_
  refine ms_iload_n dX9_leadsTo_1 rfl ?_
  refine ms_ishl dX9_leadsTo_2 ?_
  rw [← hr]
  refine ms_istore_n dX9_leadsTo_3 (Nat.le_of_ble_eq_true rfl) ?_
  refine ms_iconst (v := nI 0) dX9_leadsTo_4 (by decide) ?_
  refine ms_istore dX9_leadsTo_5 (Nat.le_of_ble_eq_true rfl) ?_
  exact outer (m + 1) 0 _ (by omega) (by omega)
def frP (I : m_I) (s i : Nat) : Bool := bt (I (scI s) 5) i && !seC I i
def frC (I : m_I) (s m : Nat) : Bool := !anyB (frP I s) m
theorem k_isFree {S : m_S} {I : m_I} {lg : Int64} {d m s : Nat} (hd : 2 ≤ d) (hm : I 1 3 = nI m) (hm2 : m ≤ 20) (hs : s < 20) : m_R S M_X9_isFree d [.ref 1, .ref (scI s)] (hh I lg) (some (.int (bi (frC I s m)))) (hh I lg) := by
  have loop : ∀ (q k : Nat) (hf : anyB (frP I s) k = false), k ≤ m → m - k < q → m_W S (M_X9_isFree, d, fun w9 g9 => w9 = some (.int (bi (frC I s m))) ∧ g9 = hh (I) lg, fun _ _ => False) 2 [some (.ref 1), some (.ref (scI s)), some (.int (nI k))] [] (hh (I) lg) 0 0 := by
    intro q
    induction q with
    | zero => intro k hf _ h; omega
    | succ q ih =>
      intro k hf hk hq
      refine ms_iload_n dX9_isFree_2 rfl ?_
      refine ms_aload_n dX9_isFree_3 rfl ?_
      refine q_geti dX9_isFree_4 fX9_25 (by rw [kd_9_3]; decide) (by first | decide | exact lt_sc (by omega) | exact lt_dy (by omega) | exact lt_rw (by omega) | exact lt_wa (by omega) | exact lt_le (by omega)) (by first | rfl | rw [sh_sc (by omega)] | rw [sh_dy (by omega)]) (by first | assumption | ((repeat ((with_reducible apply m_up2_tr); · first | omega | (intro z; (try unfold scI at z); (try unfold dyI at z); (try unfold rwI at z); (try unfold waI at z); (try unfold leI at z); omega))); first | assumption | exact m_up2_eq | rfl)) ?_
      refine n_icmp_ge (tgt := 41) dX9_isFree_7 (by decide) (by omega) (by omega) (fun c7 => ?_) (fun c7 => ?_)
      · obtain rfl : k = m := by omega
        refine ms_iconst (v := nI 1) dX9_isFree_41 (by decide) ?_
        refine ms_zret dX9_isFree_42 rfl rfl (by first | exact Or.inl (by decide) | exact Or.inr (by decide) | assumption | exact bi_01 _) ⟨?_, ?_⟩
        · unfold frC; rw [hf]; rfl
        · rfl
      · refine ms_aload_n dX9_isFree_10 rfl ?_
        refine q_geti dX9_isFree_11 fX9_98 (by rw [kd_8_5]; decide) (by first | decide | exact lt_sc (by omega) | exact lt_dy (by omega) | exact lt_rw (by omega) | exact lt_wa (by omega) | exact lt_le (by omega)) (by first | rfl | rw [sh_sc (by omega)] | rw [sh_dy (by omega)]) rfl ?_
        refine ms_iload_n dX9_isFree_14 rfl ?_
        refine qRN2 dX9_isFree_15 kX9_64 (d := d - 1) (by show d - 1 + 1 ≤ d; omega) rfl rfl (Nat.le_of_ble_eq_true rfl) (Nat.le_of_ble_eq_true rfl) (k_hasBit (b := k) _ (by omega)) rfl ?_
        refine ms_if_eq (tgt := 35) dX9_isFree_18 (by decide) (fun c18 => ?_) (fun c18 => ?_)
        · have e : frP I s k = false := by unfold frP; rw [bi_0.mp c18]; rfl
          refine n_iinc dX9_isFree_35 rfl ?_
          refine ms_goto (tgt := 2) dX9_isFree_38 (by decide) ?_
          exact ih (k + 1) (by unfold anyB; rw [hf, e]; rfl) (by omega) (by omega)
        · refine ms_aload_n dX9_isFree_21 rfl ?_
          refine q_getr dX9_isFree_22 fX9_11 kd_9_0 (by first | decide | exact lt_sc (by omega) | exact lt_dy (by omega) | exact lt_rw (by omega) | exact lt_wa (by omega) | exact lt_le (by omega)) (by first | rfl | rw [sh_sc (by omega)] | rw [sh_dy (by omega)]) (by first | rfl | exact rf_wa (by omega) | exact rf_le (by omega) | exact rf_rw (by omega)) ?_
          refine ms_iload_n dX9_isFree_25 rfl ?_
          refine q_aald dX9_isFree_26 (by first | exact Or.inl ⟨rfl, by omega, rfl⟩ | exact Or.inr ⟨rfl, by omega, rfl⟩) ?_
          refine qRV0 dX9_isFree_27 kX9_108 (by show _ < 178; first | decide | exact lt_sc (by omega) | exact lt_dy (by omega)) (by show (sh0 _).1 = _; first | rfl | rw [sh_sc (by omega)] | rw [sh_dy (by omega)]) (d := d - 1) (by show d - 1 + 1 ≤ d; omega)  (Nat.le_of_ble_eq_true rfl) (Nat.le_of_ble_eq_true rfl) (k_isSettled (s := k) (by omega)) rfl ?_
          refine ms_if_ne (tgt := 35) dX9_isFree_30 (by decide) (fun c30 => ?_) (fun c30 => ?_)
          · have e : frP I s k = false := by unfold frP; rw [bi_n0.mp c30, Bool.not_true, Bool.and_false]
            refine n_iinc dX9_isFree_35 rfl ?_
            refine ms_goto (tgt := 2) dX9_isFree_38 (by decide) ?_
            exact ih (k + 1) (by unfold anyB; rw [hf, e]; rfl) (by omega) (by omega)
          · have e : anyB (frP I s) m = true := anyB_t (k := k) (by omega) (by unfold frP; rw [bi_n0.mp c18, bi_0.mp c30]; rfl)
            refine ms_iconst (v := nI 0) dX9_isFree_33 (by decide) ?_
            refine ms_zret dX9_isFree_34 rfl rfl (by first | exact Or.inl (by decide) | exact Or.inr (by decide) | assumption | exact bi_01 _) ⟨?_, ?_⟩
            · unfold frC; rw [e]; rfl
            · rfl
  refine ms_iconst (v := nI 0) dX9_isFree_0 (by decide) ?_
  refine ms_istore_n dX9_isFree_1 (Nat.le_of_ble_eq_true rfl) ?_
  exact loop (m + 1) 0 rfl (by omega) (by omega)
def ftP (I : m_I) (o : Nat → Nat) (m : Nat) (tr : Int32) (k : Nat) : Bool := !bt tr (o k) && (loC I (o k) && frC I (o k) m)
theorem k_firstToTry {S : m_S} {I : m_I} {lg : Int64} {d m k0 : Nat} {tr : Int32} {o : Nat → Nat} (hd : 3 ≤ d) (hm : I 1 3 = nI m) (hm2 : m ≤ 20) (ho : ∀ k, k < m → I 3 k = nI (o k) ∧ o k < 20) (h1 : k0 ≤ m) (h2 : ∀ j, j < k0 → ftP I o m tr j = false) (h3 : k0 < m → ftP I o m tr k0 = true) : m_R S M_X9_firstToTry d [.ref 1, .int tr] (hh I lg) (some (.int (if k0 < m then nI (o k0) else -1))) (hh I lg) := by
  have loop : ∀ (q k : Nat) (d3 : Option Value), k ≤ k0 → k0 - k < q → m_W S (M_X9_firstToTry, d, fun w g9 => w = some (.int (if k0 < m then nI (o k0) else -1)) ∧ g9 = hh I lg, fun _ _ => False) 2 [some (.ref 1), some (.int tr), some (.int (nI k)), d3] [] (hh I lg) 0 0 := by
    intro q
    induction q with
    | zero => intro k _ _ h; omega
    | succ q ih =>
      intro k d3 hk hq
      refine ms_iload_n dX9_firstToTry_2 rfl ?_
      refine ms_aload_n dX9_firstToTry_3 rfl ?_
      refine q_geti dX9_firstToTry_4 fX9_25 (by rw [kd_9_3]; decide) (by first | decide | exact lt_sc (by omega) | exact lt_dy (by omega) | exact lt_rw (by omega) | exact lt_wa (by omega) | exact lt_le (by omega)) (by first | rfl | rw [sh_sc (by omega)] | rw [sh_dy (by omega)]) (by first | assumption | ((repeat ((with_reducible apply m_up2_tr); · first | omega | (intro z; (try unfold scI at z); (try unfold dyI at z); (try unfold rwI at z); (try unfold waI at z); (try unfold leI at z); omega))); first | assumption | exact m_up2_eq | rfl)) ?_
      refine n_icmp_ge (tgt := 63) dX9_firstToTry_7 (by decide) (by omega) (by omega) (fun c7 => ?_) (fun c7 => ?_)
      · have e : ¬ k0 < m := by omega
        refine ms_iconst (v := -1) dX9_firstToTry_63 (by decide) ?_
        refine ms_iret dX9_firstToTry_64 rfl rfl ⟨?_, ?_⟩
        · rw [if_neg e]
        · rfl
      · obtain ⟨hk1, hk2⟩ := ho k (by omega)
        have next : ftP I o m tr k = false → ∀ d3, m_W S (M_X9_firstToTry, d, fun w g9 => w = some (.int (if k0 < m then nI (o k0) else -1)) ∧ g9 = hh I lg, fun _ _ => False) 57 [some (.ref 1), some (.int tr), some (.int (nI k)), d3] [] (hh I lg) 0 0 := by
          intro hf d3
          have hne : k ≠ k0 := fun z => by
            have := h3 (by omega)
            rw [← z, hf] at this
            cases this
          refine n_iinc dX9_firstToTry_57 rfl ?_
          refine ms_goto (tgt := 2) dX9_firstToTry_60 (by decide) ?_
          exact ih (k + 1) d3 (by omega) (by omega)
        refine ms_aload_n dX9_firstToTry_10 rfl ?_
        refine q_getr dX9_firstToTry_11 fX9_11 kd_9_0 (by first | decide | exact lt_sc (by omega) | exact lt_dy (by omega) | exact lt_rw (by omega) | exact lt_wa (by omega) | exact lt_le (by omega)) (by first | rfl | rw [sh_sc (by omega)] | rw [sh_dy (by omega)]) (by first | rfl | exact rf_wa (by omega) | exact rf_le (by omega) | exact rf_rw (by omega)) ?_
        refine ms_aload_n dX9_firstToTry_14 rfl ?_
        refine q_getr dX9_firstToTry_15 fX9_17 kd_9_1 (by first | decide | exact lt_sc (by omega) | exact lt_dy (by omega) | exact lt_rw (by omega) | exact lt_wa (by omega) | exact lt_le (by omega)) (by first | rfl | rw [sh_sc (by omega)] | rw [sh_dy (by omega)]) (by first | rfl | exact rf_wa (by omega) | exact rf_le (by omega) | exact rf_rw (by omega)) ?_
        refine ms_iload_n dX9_firstToTry_18 rfl ?_
        refine q_iald dX9_firstToTry_19 (by first | decide | exact lt_sc (by omega) | exact lt_dy (by omega) | exact lt_rw (by omega) | exact lt_wa (by omega) | exact lt_le (by omega)) (by first | rfl | exact sh_rw (by omega) | exact sh_wa (by omega) | exact sh_le (by omega)) (by omega) (by decide) (by first | assumption | ((repeat ((with_reducible apply m_up2_tr); · first | omega | (intro z; (try unfold scI at z); (try unfold dyI at z); (try unfold rwI at z); (try unfold waI at z); (try unfold leI at z); omega))); first | assumption | exact m_up2_eq | rfl)) ?_
        refine q_aald dX9_firstToTry_20 (by first | exact Or.inl ⟨rfl, by omega, rfl⟩ | exact Or.inr ⟨rfl, by omega, rfl⟩) ?_
        refine ms_astore_n dX9_firstToTry_21 (Nat.le_of_ble_eq_true rfl) ?_
        refine ms_iload_n dX9_firstToTry_22 rfl ?_
        refine ms_aload_n dX9_firstToTry_23 rfl ?_
        refine q_getr dX9_firstToTry_24 fX9_17 kd_9_1 (by first | decide | exact lt_sc (by omega) | exact lt_dy (by omega) | exact lt_rw (by omega) | exact lt_wa (by omega) | exact lt_le (by omega)) (by first | rfl | rw [sh_sc (by omega)] | rw [sh_dy (by omega)]) (by first | rfl | exact rf_wa (by omega) | exact rf_le (by omega) | exact rf_rw (by omega)) ?_
        refine ms_iload_n dX9_firstToTry_27 rfl ?_
        refine q_iald dX9_firstToTry_28 (by first | decide | exact lt_sc (by omega) | exact lt_dy (by omega) | exact lt_rw (by omega) | exact lt_wa (by omega) | exact lt_le (by omega)) (by first | rfl | exact sh_rw (by omega) | exact sh_wa (by omega) | exact sh_le (by omega)) (by omega) (by decide) (by first | assumption | ((repeat ((with_reducible apply m_up2_tr); · first | omega | (intro z; (try unfold scI at z); (try unfold dyI at z); (try unfold rwI at z); (try unfold waI at z); (try unfold leI at z); omega))); first | assumption | exact m_up2_eq | rfl)) ?_
        refine qRN2 dX9_firstToTry_29 kX9_64 (d := d - 1) (by show d - 1 + 1 ≤ d; omega) rfl rfl (Nat.le_of_ble_eq_true rfl) (Nat.le_of_ble_eq_true rfl) (k_hasBit (b := o k) _ (by omega)) rfl ?_
        refine ms_if_ne (tgt := 57) dX9_firstToTry_32 (by decide) (fun c32 => ?_) (fun c32 => ?_)
        · exact next (by unfold ftP; rw [bi_n0.mp c32]; rfl) _
        · refine ms_aload_n dX9_firstToTry_35 rfl ?_
          refine qRV0 dX9_firstToTry_36 kX9_101 (by show _ < 178; first | decide | exact lt_sc (by omega) | exact lt_dy (by omega)) (by show (sh0 _).1 = _; first | rfl | rw [sh_sc (by omega)] | rw [sh_dy (by omega)]) (d := d - 1) (by show d - 1 + 1 ≤ d; omega)  (Nat.le_of_ble_eq_true rfl) (Nat.le_of_ble_eq_true rfl) (k_isLoose hk2) rfl ?_
          refine ms_if_eq (tgt := 57) dX9_firstToTry_39 (by decide) (fun c39 => ?_) (fun c39 => ?_)
          · exact next (by unfold ftP; rw [bi_0.mp c39, Bool.false_and, Bool.and_false]) _
          · refine ms_aload_n dX9_firstToTry_42 rfl ?_
            refine ms_aload_n dX9_firstToTry_43 rfl ?_
            refine qRV1 dX9_firstToTry_44 kX9_105 (by show _ < 178; first | decide | exact lt_sc (by omega) | exact lt_dy (by omega)) (by show (sh0 _).1 = _; first | rfl | rw [sh_sc (by omega)] | rw [sh_dy (by omega)]) (d := d - 1) (by show d - 1 + 1 ≤ d; omega) rfl (Nat.le_of_ble_eq_true rfl) (Nat.le_of_ble_eq_true rfl) (k_isFree (by omega) hm hm2 hk2) rfl ?_
            refine ms_if_eq (tgt := 57) dX9_firstToTry_47 (by decide) (fun c47 => ?_) (fun c47 => ?_)
            · exact next (by unfold ftP; rw [bi_0.mp c47, Bool.and_false, Bool.and_false]) _
            · have e : ftP I o m tr k = true := by unfold ftP; rw [bi_0.mp c32, bi_n0.mp c39, bi_n0.mp c47]; rfl
              have e2 : k = k0 := by
                rcases Nat.lt_or_ge k k0 with z | z
                · rw [h2 k z] at e; cases e
                · omega
              subst e2
              refine ms_aload_n dX9_firstToTry_50 rfl ?_
              refine q_getr dX9_firstToTry_51 fX9_17 kd_9_1 (by first | decide | exact lt_sc (by omega) | exact lt_dy (by omega) | exact lt_rw (by omega) | exact lt_wa (by omega) | exact lt_le (by omega)) (by first | rfl | rw [sh_sc (by omega)] | rw [sh_dy (by omega)]) (by first | rfl | exact rf_wa (by omega) | exact rf_le (by omega) | exact rf_rw (by omega)) ?_
              refine ms_iload_n dX9_firstToTry_54 rfl ?_
              refine q_iald dX9_firstToTry_55 (by first | decide | exact lt_sc (by omega) | exact lt_dy (by omega) | exact lt_rw (by omega) | exact lt_wa (by omega) | exact lt_le (by omega)) (by first | rfl | exact sh_rw (by omega) | exact sh_wa (by omega) | exact sh_le (by omega)) (by omega) (by decide) (by first | assumption | ((repeat ((with_reducible apply m_up2_tr); · first | omega | (intro z; (try unfold scI at z); (try unfold dyI at z); (try unfold rwI at z); (try unfold waI at z); (try unfold leI at z); omega))); first | assumption | exact m_up2_eq | rfl)) ?_
              refine ms_iret dX9_firstToTry_56 rfl rfl ⟨?_, ?_⟩
              · rw [if_pos c7]
              · rfl
  refine ms_iconst (v := nI 0) dX9_firstToTry_0 (by decide) ?_
  refine ms_istore_n dX9_firstToTry_1 (Nat.le_of_ble_eq_true rfl) ?_
  exact loop (k0 + 1) 0 none (by omega) (by omega)

