-- NAME calls10
/-! calls: mend -/
theorem Iv_141 {c : Nat} {I I2 : m_I} (h : Iv c I) (h1 : ∀ a b, a ≠ 141 → I2 a b = I a b) : Iv c I2 := Iv_same h (Nat.le_refl _) (fun a b z => h1 a b (by unfold usd at z; omega))
theorem Iv_tkB {c cnt t : Nat} {JA : m_I} (hI : Iv c JA) (ht : t < 30) (hc : ∀ i, i < cnt → vN (JA 141 i) < vm JA ∧ JA (scI (vN (JA 141 i))) 15 = nI t) (hx : ∀ i i', i < cnt → i' < cnt → JA 141 i = JA 141 i' → i = i') : ∀ k, k ≤ cnt → Iv c (tkB JA t k) := by
  intro k
  induction k with
  | zero => exact fun _ => hI
  | succ k ih =>
    intro hk
    obtain ⟨h1, h2, h3, h4⟩ := tkB_ok hI.1 ht hc hx k (by omega)
    obtain ⟨j, hj, he⟩ := on_row (s := vN (JA 141 k)) h1 (by rw [h4]; exact (hc k (by omega)).1) ht (h2 k (Nat.le_refl _) (by omega))
    obtain ⟨g1, g2⟩ := at1_ok hj he
    exact Iv_toI (ih (by omega)) (Nat.le_refl _) ht g1 g2
theorem tkB_hi {JA : m_I} {t cnt : Nat} (ht : t < 30) (h : ∀ i, i < cnt → vN (JA 141 i) < 20) : ∀ k, k ≤ cnt → ∀ a b, 143 ≤ a → tkB JA t k a b = JA a b := by
  intro k
  induction k with
  | zero => exact fun _ _ _ _ => rfl
  | succ k ih => exact fun hk a b hab => (toI_ne (by unfold rwI; omega) (by unfold dyI; omega) (by have := h k (by omega); unfold scI; omega)).trans (ih (by omega) a b hab)
theorem mn_ok {c t cnt pn : Nat} {sq : Nat → Nat} (hx : ∀ i j, i < cnt → j < cnt → sq i = sq j → i = j) : ∀ (k i p : Nat) (I : m_I), i + k = cnt → Iv c I → (∀ i', i ≤ i' → i' < cnt → sq i' < vm I ∧ I (scI (sq i')) 15 = -1 ∧ I (scI (sq i')) 11 = 0) → Iv c (mnR pn t sq k i p I).1 ∧ ∀ a b, 143 ≤ a → (mnR pn t sq k i p I).1 a b = I a b := by
  intro k
  induction k with
  | zero => exact fun i p I _ h _ => ⟨h, fun _ _ _ => rfl⟩
  | succ k ih =>
    intro i p I hik hI hs
    have hm := hI.1.1
    have hic : i < cnt := by omega
    obtain ⟨s1, s2, s3⟩ := hs i (Nat.le_refl _) hic
    have hvt := hI.2.1.2.2
    obtain ⟨I1, hI1⟩ : ∃ I1, I1 = (fdR (sq i) pn (nI t) (30 - vt I) (vt I) I).1 := ⟨_, rfl⟩
    have hIv1 : Iv c I1 := by rw [hI1]; exact Iv_fd _ _ _ (by omega) hI s1 s2 s3
    have hlo : ∀ a b, a < 75 → ¬ (a = scI (sq i) ∧ b = 15) → I1 a b = I a b := fun a b ha hb => by rw [hI1]; exact fdR_lo ha hb _ _ _
    have evm : vm I1 = vm I := congrArg vN (hlo _ _ (by decide) (by unfold scI; omega))
    have hs2 : ∀ i', i + 1 ≤ i' → i' < cnt → sq i' < vm I1 ∧ I1 (scI (sq i')) 15 = -1 ∧ I1 (scI (sq i')) 11 = 0 := fun i' h1 h2 => by
      obtain ⟨a1, a2, a3⟩ := hs i' (by omega) h2
      have hne : sq i' ≠ sq i := fun z => by have := hx i' i h2 hic z; omega
      refine ⟨by rw [evm]; exact a1, ?_, ?_⟩
      · rw [hlo _ _ (by unfold scI; omega) (by unfold scI; omega)]
        exact a2
      · rw [hlo _ _ (by unfold scI; omega) (by unfold scI; omega)]
        exact a3
    have eF : mnR pn t sq (k + 1) i p I = mnR pn t sq k (i + 1) (if (fdR (sq i) pn (nI t) (30 - vt I) (vt I) I).2 then p + 1 else p) I1 := by rw [hI1]; rfl
    rw [eF]
    obtain ⟨g1, g2⟩ := ih (i + 1) (if (fdR (sq i) pn (nI t) (30 - vt I) (vt I) I).2 then p + 1 else p) I1 (by omega) hIv1 hs2
    exact ⟨g1, fun a b hab => (g2 a b hab).trans (by rw [hI1]; exact fdR_ne (by omega) (fun t ht => by unfold rwI; omega) (fun t ht => by unfold dyI; omega) (by unfold scI; omega) _ _ _ (by omega))⟩
theorem r_mendF {S : m_S} {c t cnt pn : Nat} {sq : Nat → Nat} (hc : c < 512) (hcnt : cnt ≤ 8) (hx : ∀ i j, i < cnt → j < cnt → sq i = sq j → i = j) : ∀ (k i p : Nat) (I J : m_I), i + k = cnt → Iv c I → vpn I = pn → Cr I J → (∀ i', i ≤ i' → i' < cnt → sq i' < vm I ∧ I (scI (sq i')) 15 = -1 ∧ I (scI (sq i')) 11 = 0) → (∀ i', i' < cnt → J 176 i' = nI (sq i')) → ∃ J2, (∀ lg d (x : Int32), 9 ≤ d → m_W S (M_X11_mend, d, fun w9 g => w9 = some (.int (nI (mnR pn t sq k i p I).2)) ∧ g = hh J2 lg, fun _ _ => False) 184 [some (.ref 143), some (.int (nI t)), some (.int (bi true)), some (.int x), some (.int (nI cnt)), some (.int (nI p)), some (.int (nI i))] [] (hh J lg) 0 0) ∧ Cr (mnR pn t sq k i p I).1 J2 ∧ Iv c (mnR pn t sq k i p I).1 ∧ fQ J J2 ∧ J2 143 0 = J 143 0 ∧ ∀ a b, 143 ≤ a → (mnR pn t sq k i p I).1 a b = I a b := by
  intro k
  induction k with
  | zero =>
    intro i p I J hik hI hpn hC hs h6
    refine ⟨J, fun lg d x hd => ?_, hC, hI, fun _ _ _ => rfl, rfl, fun _ _ _ => rfl⟩
    refine ms_iload dX11_mend_184 rfl ?_
    refine ms_iload dX11_mend_186 rfl ?_
    refine n_icmp_ge (tgt := 222) dX11_mend_188 (by decide) (by omega) (by omega) (fun c188 => ?_) (fun c188 => ?_)
    · refine ms_iload dX11_mend_222 rfl ?_
      refine ms_iret dX11_mend_224 rfl rfl ⟨?_, ?_⟩
      · rfl
      · rfl
    · omega
  | succ k ih =>
    intro i p I J hik hI hpn hC hs h6
    have hV := hI.1
    have hm := hV.1
    have hic : i < cnt := by omega
    obtain ⟨s1, s2, s3⟩ := hs i (Nat.le_refl _) hic
    have hs20 : sq i < 20 := by omega
    have hvt := hI.2.1.2.2
    have hS : St I pn := by rw [← hpn]; exact Iv_St hI (by omega)
    obtain ⟨J1, g1, g2, g3⟩ := kr_findA (S := S) (bf := nI t) hV hS hC s1 s2 hvt
    obtain ⟨I1, hI1⟩ : ∃ I1, I1 = (fdR (sq i) pn (nI t) (30 - vt I) (vt I) I).1 := ⟨_, rfl⟩
    obtain ⟨q, hq⟩ : ∃ q, q = (fdR (sq i) pn (nI t) (30 - vt I) (vt I) I).2 := ⟨_, rfl⟩
    have hIv1 : Iv c I1 := by rw [hI1]; exact Iv_fd _ _ _ (by omega) hI s1 s2 s3
    have hlo : ∀ a b, a < 75 → ¬ (a = scI (sq i) ∧ b = 15) → I1 a b = I a b := fun a b ha hb => by rw [hI1]; exact fdR_lo ha hb _ _ _
    have evm : vm I1 = vm I := congrArg vN (hlo _ _ (by decide) (by unfold scI; omega))
    have epn : vpn I1 = pn := (congrArg vN (hlo _ _ (by decide) (by unfold scI; omega))).trans hpn
    rw [← hI1] at g2
    rw [← hq] at g1
    have eF : mnR pn t sq (k + 1) i p I = mnR pn t sq k (i + 1) (if q then p + 1 else p) I1 := by rw [hq, hI1]; rfl
    have hs2 : ∀ i', i + 1 ≤ i' → i' < cnt → sq i' < vm I1 ∧ I1 (scI (sq i')) 15 = -1 ∧ I1 (scI (sq i')) 11 = 0 := fun i' h1 h2 => by
      obtain ⟨a1, a2, a3⟩ := hs i' (by omega) h2
      have hne : sq i' ≠ sq i := fun z => by have := hx i' i h2 hic z; omega
      refine ⟨by rw [evm]; exact a1, ?_, ?_⟩
      · rw [hlo _ _ (by unfold scI; omega) (by unfold scI; omega)]
        exact a2
      · rw [hlo _ _ (by unfold scI; omega) (by unfold scI; omega)]
        exact a3
    obtain ⟨J2, k1, k2, k3, k4, k5, k6⟩ := ih (i + 1) (if q then p + 1 else p) I1 J1 (by omega) hIv1 epn g2 hs2 (fun i' h => (g3 _ _ (Or.inr (Or.inr rfl))).trans (h6 i' h))
    rw [eF]
    refine ⟨J2, fun lg d x hd => ?_, k2, k3, fQ_tr (fQ_R g3) k4, k5.trans (g3 _ _ (Or.inr (Or.inl ⟨rfl, rfl⟩))), fun a b hab => (k6 a b hab).trans (by rw [hI1]; exact fdR_ne (by omega) (fun t ht => by unfold rwI; omega) (fun t ht => by unfold dyI; omega) (by unfold scI; omega) _ _ _ (by omega))⟩
    have h69 := h6 i hic
    refine ms_iload dX11_mend_184 rfl ?_
    refine ms_iload dX11_mend_186 rfl ?_
    refine n_icmp_ge (tgt := 222) dX11_mend_188 (by decide) (by omega) (by omega) (fun c188 => ?_) (fun c188 => ?_)
    · omega
    · refine ms_iload dX11_mend_191 rfl ?_
      refine ms_aload_n dX11_mend_193 rfl ?_
      refine ms_aload_n dX11_mend_194 rfl ?_
      refine q_getr dX11_mend_195 fX11_107 kd_11_40 (by first | decide | exact lt_sc (by omega) | exact lt_dy (by omega) | exact lt_rw (by omega) | exact lt_wa (by omega) | exact lt_le (by omega)) (by first | rfl | rw [sh_sc (by omega)] | rw [sh_dy (by omega)]) (by first | rfl | exact rf_wa (by omega) | exact rf_le (by omega) | exact rf_rw (by omega)) ?_
      refine ms_iload dX11_mend_198 rfl ?_
      refine q_iald dX11_mend_200 (by first | decide | exact lt_sc (by omega) | exact lt_dy (by omega) | exact lt_rw (by omega) | exact lt_wa (by omega) | exact lt_le (by omega)) (by first | rfl | exact sh_rw (by omega) | exact sh_wa (by omega) | exact sh_le (by omega)) (by omega) (by decide) h69 ?_
      refine ms_iload_n dX11_mend_201 rfl ?_
      refine qRV2 dX11_mend_202 kX11_211 (by show _ < 178; first | decide | exact lt_sc (by omega) | exact lt_dy (by omega)) (by show (sh0 _).1 = _; first | rfl | rw [sh_sc (by omega)] | rw [sh_dy (by omega)]) (d := d - 1) (by show d - 1 + 1 ≤ d; omega) rfl rfl (Nat.le_of_ble_eq_true rfl) (Nat.le_of_ble_eq_true rfl) (g1 _ _ (by omega)) rfl ?_
      refine ms_if_eq (tgt := 212) dX11_mend_205 (by decide) (fun c205 => ?_) (fun c205 => ?_)
      · have e : q = false := bi_0.mp c205
        rw [e] at k1
        refine ms_iconst (v := nI 0) dX11_mend_212 (by decide) ?_
        refine n_iadd dX11_mend_213 ?_
        refine ms_istore dX11_mend_214 (Nat.le_of_ble_eq_true rfl) ?_
        refine n_iinc dX11_mend_216 rfl ?_
        refine ms_goto (tgt := 184) dX11_mend_219 (by decide) ?_
        rw [e]
        exact k1 lg d x hd
      · have e : q = true := bi_n0.mp c205
        rw [e] at k1
        refine ms_iconst (v := nI 1) dX11_mend_208 (by decide) ?_
        refine ms_goto (tgt := 213) dX11_mend_209 (by decide) ?_
        refine n_iadd dX11_mend_213 ?_
        refine ms_istore dX11_mend_214 (Nat.le_of_ble_eq_true rfl) ?_
        refine n_iinc dX11_mend_216 rfl ?_
        refine ms_goto (tgt := 184) dX11_mend_219 (by decide) ?_
        rw [e]
        exact k1 lg d x hd
theorem r_mendO {S : m_S} {c t cnt : Nat} {JA : m_I} {r : Int32} {R : m_I} (hI : Iv c JA) (ht : t < 30) (hcnt : cnt ≤ 8) (hc9 : ∀ i, i < cnt → vN (JA 141 i) < vm JA ∧ JA (scI (vN (JA 141 i))) 15 = nI t) (hx : ∀ i i', i < cnt → i' < cnt → JA 141 i = JA 141 i' → i = i') (hF : ∀ J, Cr (tkB JA t cnt) J → (∀ i', i' < cnt → J 176 i' = JA 141 i') → ∃ J2, (∀ lg d (x : Int32), 9 ≤ d → m_W S (M_X11_mend, d, fun w9 g => w9 = some (.int r) ∧ g = hh J2 lg, fun _ _ => False) 184 [some (.ref 143), some (.int (nI t)), some (.int (bi true)), some (.int x), some (.int (nI cnt)), some (.int (nI 0)), some (.int (nI 0))] [] (hh J lg) 0 0) ∧ Cr R J2 ∧ fQ J J2 ∧ J2 143 0 = J 143 0) : ∀ (k i : Nat) (J : m_I), i + k = cnt → Cr (tkB JA t i) J → (∀ i', i' < cnt → J 176 i' = JA 141 i') → ∃ J2, (∀ lg d (x : Int32) d6, 9 ≤ d → m_W S (M_X11_mend, d, fun w9 g => w9 = some (.int r) ∧ g = hh J2 lg, fun _ _ => False) 154 [some (.ref 143), some (.int (nI t)), some (.int (bi true)), some (.int x), some (.int (nI cnt)), some (.int (nI i)), d6] [] (hh J lg) 0 0) ∧ Cr R J2 ∧ fQ J J2 ∧ J2 143 0 = J 143 0 := by
  intro k
  induction k with
  | zero =>
    intro i J hik hC h6
    obtain rfl : i = cnt := by omega
    obtain ⟨J2, k1, k2, k3, k4⟩ := hF J hC h6
    refine ⟨J2, fun lg d x d6 hd => ?_, k2, k3, k4⟩
    refine ms_iload dX11_mend_154 rfl ?_
    refine ms_iload dX11_mend_156 rfl ?_
    refine n_icmp_ge (tgt := 178) dX11_mend_158 (by decide) (by omega) (by omega) (fun c158 => ?_) (fun c158 => ?_)
    · refine ms_iconst (v := nI 0) dX11_mend_178 (by decide) ?_
      refine ms_istore dX11_mend_179 (Nat.le_of_ble_eq_true rfl) ?_
      refine ms_iconst (v := nI 0) dX11_mend_181 (by decide) ?_
      refine ms_istore dX11_mend_182 (Nat.le_of_ble_eq_true rfl) ?_
      exact k1 lg d x hd
    · omega
  | succ k ih =>
    intro i J hik hC h6
    have hic : i < cnt := by omega
    obtain ⟨b1, b2, b3, b4⟩ := tkB_ok hI.1 ht hc9 hx i (by omega)
    obtain ⟨s, hs⟩ : ∃ s, s = vN (JA 141 i) := ⟨_, rfl⟩
    have hsv : s < vm (tkB JA t i) := by rw [b4, hs]; exact (hc9 i hic).1
    have hm := b1.1
    obtain ⟨j, hj, he⟩ := on_row (s := s) b1 hsv ht (by rw [hs]; exact b2 i (Nat.le_refl _) hic)
    obtain ⟨g1, g2⟩ := at1_ok hj he
    have eB : tkB JA t (i + 1) = toI (tkB JA t i) s t (at1 (tkB JA t i) t s) (vn (tkB JA t i) t) := by rw [hs]; rfl
    have hC2 : Cr (tkB JA t (i + 1)) (ofR J s t (at1 (tkB JA t i) t s) (vn (tkB JA t i) t)) := by
      rw [eB]
      exact Cr_take hm hC ht (b1.2.1 t ht) hsv
    obtain ⟨J2, k1, k2, k3, k4⟩ := ih (i + 1) _ (by omega) hC2 (fun i' h => (fR_of _ _ (Or.inr (Or.inr rfl))).trans (h6 i' h))
    refine ⟨J2, fun lg d x d6 hd => ?_, k2, fQ_tr fQ_of k3, k4.trans ofR_thr⟩
    have h69 : J 176 i = nI s := (h6 i hic).trans (by rw [hs]; exact (nI_vN _).symm)
    have hof := kr_offV (S := S) (lg := lg) (d := d - 1) (by omega) hC b1 ht g1 g2
    refine ms_iload dX11_mend_154 rfl ?_
    refine ms_iload dX11_mend_156 rfl ?_
    refine n_icmp_ge (tgt := 178) dX11_mend_158 (by decide) (by omega) (by omega) (fun c158 => ?_) (fun c158 => ?_)
    · omega
    · refine ms_aload_n dX11_mend_161 rfl ?_
      refine ms_aload_n dX11_mend_162 rfl ?_
      refine q_getr dX11_mend_163 fX11_107 kd_11_40 (by first | decide | exact lt_sc (by omega) | exact lt_dy (by omega) | exact lt_rw (by omega) | exact lt_wa (by omega) | exact lt_le (by omega)) (by first | rfl | rw [sh_sc (by omega)] | rw [sh_dy (by omega)]) (by first | rfl | exact rf_wa (by omega) | exact rf_le (by omega) | exact rf_rw (by omega)) ?_
      refine ms_iload dX11_mend_166 rfl ?_
      refine q_iald dX11_mend_168 (by first | decide | exact lt_sc (by omega) | exact lt_dy (by omega) | exact lt_rw (by omega) | exact lt_wa (by omega) | exact lt_le (by omega)) (by first | rfl | exact sh_rw (by omega) | exact sh_wa (by omega) | exact sh_le (by omega)) (by omega) (by decide) h69 ?_
      refine qRV1 dX11_mend_169 kX11_148 (by show _ < 178; first | decide | exact lt_sc (by omega) | exact lt_dy (by omega)) (by show (sh0 _).1 = _; first | rfl | rw [sh_sc (by omega)] | rw [sh_dy (by omega)]) (d := d - 1) (by show d - 1 + 1 ≤ d; omega) rfl (Nat.le_of_ble_eq_true rfl) (Nat.le_of_ble_eq_true rfl) (hof) rfl ?_
      refine n_iinc dX11_mend_172 rfl ?_
      refine ms_goto (tgt := 154) dX11_mend_175 (by decide) ?_
      exact k1 lg d x d6 hd
/-- the reference's taken ones behind k of the row -/
def tqR (I J : m_I) (t : Nat) : Nat → m_I
  | 0 => J
  | k + 1 => if ilB I t (vw I t k) then m_up2 (tqR I J t k) 176 (tkA I t k).2 (nI (vw I t k)) else tqR I J t k
theorem tqR_ne {I J : m_I} {t a b : Nat} (h : a ≠ 176) : ∀ k, tqR I J t k a b = J a b := by
  intro k
  induction k with
  | zero => rfl
  | succ k ih =>
    unfold tqR
    split
    · exact (m_up2_ne (by omega)).trans ih
    · exact ih
theorem tqR_eq {I J : m_I} {t : Nat} : ∀ k, ∀ i, i < (tkA I t k).2 → tqR I J t k 176 i = (tkA I t k).1 141 i := by
  intro k
  induction k with
  | zero => exact fun i hi => absurd hi (Nat.not_lt_zero i)
  | succ k ih =>
    rcases Bool.eq_false_or_eq_true (ilB I t (vw I t k)) with e | e
    · have e2 : tqR I J t (k + 1) = m_up2 (tqR I J t k) 176 (tkA I t k).2 (nI (vw I t k)) := if_pos e
      rw [tkA_y e, e2]
      intro i hi
      have hi2 : i < (tkA I t k).2 + 1 := hi
      show m_up2 (tqR I J t k) 176 (tkA I t k).2 (nI (vw I t k)) 176 i = m_up2 (tkA I t k).1 141 (tkA I t k).2 (nI (vw I t k)) 141 i
      by_cases z : i = (tkA I t k).2
      · rw [z, m_up2_eq, m_up2_eq]
      · rw [m_up2_ne (by omega), m_up2_ne (by omega)]
        exact ih i (by omega)
    · have e2 : tqR I J t (k + 1) = tqR I J t k := if_neg (by rw [e]; decide)
      rw [tkA_n e, e2]
      exact ih
theorem r_mendA {S : m_S} {I J : m_I} {t pn : Nat} {r : Int32} {J2 : m_I} {lg : Int64} {d : Nat} (hd : 9 ≤ d) (hV : Vw I) (hS : St I pn) (hC : Cr I J) (ht : t < 30) (hk : ∀ (x : Int32) d5 d6, m_W S (M_X11_mend, d, fun w9 g => w9 = some (.int r) ∧ g = hh J2 lg, fun _ _ => False) 151 [some (.ref 143), some (.int (nI t)), some (.int (bi true)), some (.int x), some (.int (nI (tkA I t (vn I t)).2)), d5, d6] [] (hh (tqR I J t (vn I t)) lg) 0 0) : m_W S (M_X11_mend, d, fun w9 g => w9 = some (.int r) ∧ g = hh J2 lg, fun _ _ => False) 35 [some (.ref 143), some (.int (nI t)), some (.int (bi true)), none, none, none, none] [] (hh J lg) 0 0 := by
  have hm := hV.1
  have hP := hS.1
  have hP2 := hP.2
  have hn8 := hV.2.1 t ht
  have hpn : J 143 22 = nI pn := hC.pn.trans hP.1
  obtain ⟨c, hc⟩ : ∃ c : Nat → Bool, c = fun p => bt (J 164 p) t := ⟨_, rfl⟩
  obtain ⟨sk, hsk⟩ : ∃ sk, sk = stG c id pn := ⟨_, rfl⟩
  have hskb : ∀ i, i < 32 → (bt sk i = true ↔ i < pn ∧ bt (I (dyI t) 3) i = true) := fun i hi => by
    rw [hsk, stG_bt hi pn (fun j hj => by show j < 32; omega)]
    refine ⟨fun ⟨j, j1, j2, j3⟩ => ?_, fun ⟨j1, j2⟩ => ⟨i, j1, ?_, rfl⟩⟩
    · have j4 : j = i := j3
      subst j4
      rw [hc] at j2
      have j5 : bt (J 164 j) t = true := j2
      rw [hC.il (by omega) ht] at j5
      exact ⟨j1, j5⟩
    · rw [hc]
      show bt (J 164 i) t = true
      rw [hC.il (by omega) ht]
      exact j2
  have hand : ∀ s, s < 20 → (I (scI s) 4 &&& sk = 0 ↔ I (scI s) 4 &&& I (dyI t) 3 = 0) := fun s hs => by
    rw [and0, and0]
    refine ⟨fun z i hi => ?_, fun z i hi => ?_⟩
    · rcases Nat.lt_or_ge i pn with y | y
      · have y2 := z i hi
        rcases Bool.eq_false_or_eq_true (bt (I (dyI t) 3) i) with x | x
        · rw [(hskb i hi).mpr ⟨y, x⟩] at y2
          rw [x]
          exact y2
        · rw [x, Bool.and_false]
      · rw [hS.2.1 s hs i y hi]
        rfl
    · rcases Bool.eq_false_or_eq_true (bt sk i) with x | x
      · have y2 := z i hi
        rw [((hskb i hi).mp x).2] at y2
        rw [x]
        exact y2
      · rw [x, Bool.and_false]
  have loop2 : ∀ (q k : Nat) (d6 : Option Value), k ≤ vn I t → vn I t - k < q → m_W S (M_X11_mend, d, fun w9 g => w9 = some (.int r) ∧ g = hh J2 lg, fun _ _ => False) 86 [some (.ref 143), some (.int (nI t)), some (.int (bi true)), some (.int sk), some (.int (nI (tkA I t k).2)), some (.int (nI k)), d6] [] (hh (tqR I J t k) lg) 0 0 := by
    intro q
    induction q with
    | zero => exact fun k d6 _ hq => absurd hq (Nat.not_lt_zero _)
    | succ q ih =>
      intro k d6 hk9 hq
      have hne : ∀ a b, a ≠ 176 → tqR I J t k a b = J a b := fun a b h => tqR_ne h k
      have hmn : tqR I J t k 172 t = nI (vn I t) := (hne _ _ (by decide)).trans (hC.dr hV ht).2.1
      refine ms_iload dX11_mend_86 rfl ?_
      refine ms_aload_n dX11_mend_88 rfl ?_
      refine q_getr dX11_mend_89 fX11_95 kd_11_36 (by first | decide | exact lt_sc (by omega) | exact lt_dy (by omega) | exact lt_rw (by omega) | exact lt_wa (by omega) | exact lt_le (by omega)) (by first | rfl | rw [sh_sc (by omega)] | rw [sh_dy (by omega)]) (by first | rfl | exact rf_wa (by omega) | exact rf_le (by omega) | exact rf_rw (by omega)) ?_
      refine ms_iload_n dX11_mend_92 rfl ?_
      refine q_iald dX11_mend_93 (by first | decide | exact lt_sc (by omega) | exact lt_dy (by omega) | exact lt_rw (by omega) | exact lt_wa (by omega) | exact lt_le (by omega)) (by first | rfl | exact sh_rw (by omega) | exact sh_wa (by omega) | exact sh_le (by omega)) (by omega) (by decide) hmn ?_
      refine n_icmp_ge (tgt := 151) dX11_mend_94 (by decide) (by omega) (by omega) (fun c94 => ?_) (fun c94 => ?_)
      · obtain rfl : k = vn I t := by omega
        exact hk _ _ _
      · have hkn : k < vn I t := by omega
        have hs20 := Vw_w20 hV ht hkn
        have r9 : tqR I J t k 171 (8 * t + k) = nI (vw I t k) := (hne _ _ (by decide)).trans ((hC.dr hV ht).2.2.2 k hkn).1
        have s9 : tqR I J t k 156 (vw I t k) = I (scI (vw I t k)) 12 := (hne _ _ (by decide)).trans (hC.sh hs20)
        have p9 : tqR I J t k 151 (vw I t k) = I (scI (vw I t k)) 4 := (hne _ _ (by decide)).trans (hC.pe hs20)
        have hle := tkA_le (I := I) (t := t) k
        have h9 := fun d6 => ih (k + 1) d6 (by omega) (by omega)
        refine ms_aload_n dX11_mend_97 rfl ?_
        refine q_getr dX11_mend_98 fX11_92 kd_11_35 (by first | decide | exact lt_sc (by omega) | exact lt_dy (by omega) | exact lt_rw (by omega) | exact lt_wa (by omega) | exact lt_le (by omega)) (by first | rfl | rw [sh_sc (by omega)] | rw [sh_dy (by omega)]) (by first | rfl | exact rf_wa (by omega) | exact rf_le (by omega) | exact rf_rw (by omega)) ?_
        refine ms_bipush (v := nI 8) dX11_mend_101 (by decide) ?_
        refine ms_iload_n dX11_mend_103 rfl ?_
        refine n_imul dX11_mend_104 ?_
        refine ms_iload dX11_mend_105 rfl ?_
        refine n_iadd dX11_mend_107 ?_
        refine q_iald dX11_mend_108 (by first | decide | exact lt_sc (by omega) | exact lt_dy (by omega) | exact lt_rw (by omega) | exact lt_wa (by omega) | exact lt_le (by omega)) (by first | rfl | exact sh_rw (by omega) | exact sh_wa (by omega) | exact sh_le (by omega)) (by omega) (by decide) r9 ?_
        refine ms_istore dX11_mend_109 (Nat.le_of_ble_eq_true rfl) ?_
        refine ms_aload_n dX11_mend_111 rfl ?_
        refine q_getr dX11_mend_112 fX11_47 kd_11_16 (by first | decide | exact lt_sc (by omega) | exact lt_dy (by omega) | exact lt_rw (by omega) | exact lt_wa (by omega) | exact lt_le (by omega)) (by first | rfl | rw [sh_sc (by omega)] | rw [sh_dy (by omega)]) (by first | rfl | exact rf_wa (by omega) | exact rf_le (by omega) | exact rf_rw (by omega)) ?_
        refine ms_iload dX11_mend_115 rfl ?_
        refine q_zald dX11_mend_117 (by first | decide | exact lt_sc (by omega) | exact lt_dy (by omega) | exact lt_rw (by omega) | exact lt_wa (by omega) | exact lt_le (by omega)) (by first | rfl | exact sh_rw (by omega) | exact sh_wa (by omega) | exact sh_le (by omega)) (by omega) (by decide) s9 ?_
        refine ms_if_ne (tgt := 145) dX11_mend_118 (by decide) (fun c118 => ?_) (fun c118 => ?_)
        · have e : ilB I t (vw I t k) = false := by unfold ilB; rw [decide_eq_false c118]; rfl
          have e2 : tqR I J t (k + 1) = tqR I J t k := if_neg (by rw [e]; decide)
          rw [tkA_n e, e2] at h9
          refine n_iinc dX11_mend_145 rfl ?_
          refine ms_goto (tgt := 86) dX11_mend_148 (by decide) ?_
          exact h9 _
        · refine ms_aload_n dX11_mend_121 rfl ?_
          refine q_getr dX11_mend_122 fX11_32 kd_11_11 (by first | decide | exact lt_sc (by omega) | exact lt_dy (by omega) | exact lt_rw (by omega) | exact lt_wa (by omega) | exact lt_le (by omega)) (by first | rfl | rw [sh_sc (by omega)] | rw [sh_dy (by omega)]) (by first | rfl | exact rf_wa (by omega) | exact rf_le (by omega) | exact rf_rw (by omega)) ?_
          refine ms_iload dX11_mend_125 rfl ?_
          refine q_iald dX11_mend_127 (by first | decide | exact lt_sc (by omega) | exact lt_dy (by omega) | exact lt_rw (by omega) | exact lt_wa (by omega) | exact lt_le (by omega)) (by first | rfl | exact sh_rw (by omega) | exact sh_wa (by omega) | exact sh_le (by omega)) (by omega) (by decide) p9 ?_
          refine ms_iload_n dX11_mend_128 rfl ?_
          refine ms_iand dX11_mend_129 ?_
          refine ms_if_eq (tgt := 145) dX11_mend_130 (by decide) (fun c130 => ?_) (fun c130 => ?_)
          · have e : ilB I t (vw I t k) = false := by unfold ilB; rw [decide_eq_true ((hand _ hs20).mp c130), Bool.not_true, Bool.and_false]
            have e2 : tqR I J t (k + 1) = tqR I J t k := if_neg (by rw [e]; decide)
            rw [tkA_n e, e2] at h9
            refine n_iinc dX11_mend_145 rfl ?_
            refine ms_goto (tgt := 86) dX11_mend_148 (by decide) ?_
            exact h9 _
          · have e : ilB I t (vw I t k) = true := by unfold ilB; rw [decide_eq_true c118, decide_eq_false (fun z => c130 ((hand _ hs20).mpr z))]; rfl
            have e2 : tqR I J t (k + 1) = m_up2 (tqR I J t k) 176 (tkA I t k).2 (nI (vw I t k)) := if_pos e
            rw [tkA_y e, e2] at h9
            refine ms_aload_n dX11_mend_133 rfl ?_
            refine q_getr dX11_mend_134 fX11_107 kd_11_40 (by first | decide | exact lt_sc (by omega) | exact lt_dy (by omega) | exact lt_rw (by omega) | exact lt_wa (by omega) | exact lt_le (by omega)) (by first | rfl | rw [sh_sc (by omega)] | rw [sh_dy (by omega)]) (by first | rfl | exact rf_wa (by omega) | exact rf_le (by omega) | exact rf_rw (by omega)) ?_
            refine ms_iload dX11_mend_137 rfl ?_
            refine ms_iload dX11_mend_139 rfl ?_
            refine q_iast dX11_mend_141 (by first | decide | exact lt_sc (by omega) | exact lt_dy (by omega) | exact lt_rw (by omega) | exact lt_wa (by omega) | exact lt_le (by omega)) (by first | rfl | exact sh_rw (by omega) | exact sh_wa (by omega) | exact sh_le (by omega)) (by omega) (by decide) ?_
            refine n_iinc dX11_mend_142 rfl ?_
            refine n_iinc dX11_mend_145 rfl ?_
            refine ms_goto (tgt := 86) dX11_mend_148 (by decide) ?_
            exact h9 _
  have loop1 : ∀ (q k : Nat), k ≤ pn → pn - k < q → m_W S (M_X11_mend, d, fun w9 g => w9 = some (.int r) ∧ g = hh J2 lg, fun _ _ => False) 40 [some (.ref 143), some (.int (nI t)), some (.int (bi true)), some (.int (stG c id k)), some (.int (nI k)), none, none] [] (hh J lg) 0 0 := by
    intro q
    induction q with
    | zero => exact fun k _ hq => absurd hq (Nat.not_lt_zero _)
    | succ q ih =>
      intro k hk9 hq
      refine ms_iload dX11_mend_40 rfl ?_
      refine ms_aload_n dX11_mend_42 rfl ?_
      refine q_geti dX11_mend_43 fX11_121 (by rw [kd_11_22]; decide) (by first | decide | exact lt_sc (by omega) | exact lt_dy (by omega) | exact lt_rw (by omega) | exact lt_wa (by omega) | exact lt_le (by omega)) (by first | rfl | rw [sh_sc (by omega)] | rw [sh_dy (by omega)]) hpn ?_
      refine n_icmp_ge (tgt := 80) dX11_mend_46 (by decide) (by omega) (by omega) (fun c46 => ?_) (fun c46 => ?_)
      · obtain rfl : k = pn := by omega
        rw [← hsk]
        refine ms_iconst (v := nI 0) dX11_mend_80 (by decide) ?_
        refine ms_istore dX11_mend_81 (Nat.le_of_ble_eq_true rfl) ?_
        refine ms_iconst (v := nI 0) dX11_mend_83 (by decide) ?_
        refine ms_istore dX11_mend_84 (Nat.le_of_ble_eq_true rfl) ?_
        exact loop2 (vn I t + 1) 0 none (by omega) (by omega)
      · have e : stG c id (k + 1) = stG c id k ||| (if c k then nI 1 <<< (nI k &&& 31) else nI 0) := rfl
        have h9 := ih (k + 1) (by omega) (by omega)
        refine ms_iload_n dX11_mend_49 rfl ?_
        refine ms_aload_n dX11_mend_50 rfl ?_
        refine q_getr dX11_mend_51 fX11_71 kd_11_27 (by first | decide | exact lt_sc (by omega) | exact lt_dy (by omega) | exact lt_rw (by omega) | exact lt_wa (by omega) | exact lt_le (by omega)) (by first | rfl | rw [sh_sc (by omega)] | rw [sh_dy (by omega)]) (by first | rfl | exact rf_wa (by omega) | exact rf_le (by omega) | exact rf_rw (by omega)) ?_
        refine ms_iload dX11_mend_54 rfl ?_
        refine q_iald dX11_mend_56 (by first | decide | exact lt_sc (by omega) | exact lt_dy (by omega) | exact lt_rw (by omega) | exact lt_wa (by omega) | exact lt_le (by omega)) (by first | rfl | exact sh_rw (by omega) | exact sh_wa (by omega) | exact sh_le (by omega)) (by omega) (by decide) rfl ?_
        refine ms_iload_n dX11_mend_57 rfl ?_
        refine qRS2 dX11_mend_58 kX11_158 (d := d - 1) (by show d - 1 + 1 ≤ d; omega) rfl rfl (Nat.le_of_ble_eq_true rfl) (Nat.le_of_ble_eq_true rfl) (kr_has (by omega)) rfl ?_
        refine ms_if_eq (tgt := 71) dX11_mend_61 (by decide) (fun c61 => ?_) (fun c61 => ?_)
        · have e2 : c k = false := by rw [hc]; exact bi_0.mp c61
          rw [e, e2] at h9
          refine ms_iconst (v := nI 0) dX11_mend_71 (by decide) ?_
          refine ms_ior dX11_mend_72 ?_
          refine ms_istore_n dX11_mend_73 (Nat.le_of_ble_eq_true rfl) ?_
          refine n_iinc dX11_mend_74 rfl ?_
          refine ms_goto (tgt := 40) dX11_mend_77 (by decide) ?_
          exact h9
        · have e2 : c k = true := by rw [hc]; exact bi_n0.mp c61
          rw [e, e2] at h9
          refine ms_iconst (v := nI 1) dX11_mend_64 (by decide) ?_
          refine ms_iload dX11_mend_65 rfl ?_
          refine ms_ishl dX11_mend_67 ?_
          refine ms_goto (tgt := 72) dX11_mend_68 (by decide) ?_
          refine ms_ior dX11_mend_72 ?_
          refine ms_istore_n dX11_mend_73 (Nat.le_of_ble_eq_true rfl) ?_
          refine n_iinc dX11_mend_74 rfl ?_
          refine ms_goto (tgt := 40) dX11_mend_77 (by decide) ?_
          exact h9
  refine ms_iconst (v := nI 0) dX11_mend_35 (by decide) ?_
  refine ms_istore_n dX11_mend_36 (Nat.le_of_ble_eq_true rfl) ?_
  refine ms_iconst (v := nI 0) dX11_mend_37 (by decide) ?_
  refine ms_istore dX11_mend_38 (Nat.le_of_ble_eq_true rfl) ?_
  exact loop1 (pn + 1) 0 (by omega) (by omega)
theorem o_mend {S : m_S} {c : Nat} {I : m_I} (x : Int32) (hc : c < 512) (hI : Iv c I) (hC : Cr I I) : Okc S c I M_X10_mend M_X11_mend [.ref 0, .int x] [.ref 143, .int x] [xI, xS] := by
  have hV := hI.1
  have hm := hV.1
  have hP := Iv_Pn hI
  have hS := Iv_St hI (by omega)
  have hn30 := hI.2.1.2.2
  have hnow : I 72 4 = nI (vt I) := (nI_vN _).symm
  rcases ix_or x (n := 30) (by omega) with ⟨t, ht, rfl⟩ | hx
  · by_cases hnt : vt I ≤ t
    · obtain ⟨JA, hJA⟩ : ∃ JA, JA = (tkA I t (vn I t)).1 := ⟨_, rfl⟩
      obtain ⟨cnt, hcnt⟩ : ∃ n, n = (tkA I t (vn I t)).2 := ⟨_, rfl⟩
      have hn8 := hV.2.1 t ht
      have hc8 : cnt ≤ 8 := by have := tkA_le (I := I) (t := t) (vn I t); omega
      obtain ⟨hin, hdis⟩ := tkA_in hV ht (vn I t) (Nat.le_refl _)
      rw [← hJA, ← hcnt] at hin hdis
      have hJne : ∀ a b, a ≠ 141 → JA a b = I a b := fun a b ha => by rw [hJA]; exact tkA_ne ha _
      have hIA : Iv c JA := Iv_141 hI hJne
      have hvmJ : vm JA = vm I := congrArg vN (hJne _ _ (by decide))
      have hcJ : ∀ i, i < cnt → vN (JA 141 i) < vm JA ∧ JA (scI (vN (JA 141 i))) 15 = nI t := fun i hi => by
        obtain ⟨j, hj, e⟩ := hin i hi
        obtain ⟨q1, q2⟩ := hV.2.2.1 t j ht hj
        rw [e, vN_nI (by omega), hvmJ]
        exact ⟨q1, (hJne _ _ (by unfold scI; omega)).trans q2⟩
      have hIB : Iv c (tkB JA t cnt) := Iv_tkB hIA ht hcJ hdis cnt (Nat.le_refl _)
      obtain ⟨b1, b2, b3, b4⟩ := tkB_ok hIA.1 ht hcJ hdis cnt (Nat.le_refl _)
      have hBne : ∀ a b, a ≠ rwI t → ¬ (a = dyI t ∧ b = 6) → (∀ s, ¬ (a = scI s ∧ b = 15)) → tkB JA t cnt a b = JA a b := fun a b h1 h2 h3 => tkB_ne h1 h2 h3 cnt
      have h141 : ∀ i, tkB JA t cnt 141 i = JA 141 i := fun i => hBne _ _ (by unfold rwI; omega) (by unfold dyI; omega) (fun s => by unfold scI; omega)
      have hBpn : vpn (tkB JA t cnt) = vpn I := (congrArg vN (hBne _ _ (by unfold rwI; omega) (by unfold dyI; omega) (fun s => by unfold scI; omega))).trans (congrArg vN (hJne _ _ (by decide)))
      obtain ⟨sq, hsq⟩ : ∃ sq : Nat → Nat, sq = fun i => vN (JA 141 i) := ⟨_, rfl⟩
      have hsqe : ∀ i, sq i = vN (JA 141 i) := fun i => by rw [hsq]
      have hsqx : ∀ i j, i < cnt → j < cnt → sq i = sq j → i = j := fun i j hi hj e => hdis i j hi hj (by rw [← nI_vN (JA 141 i), ← hsqe, e, hsqe, nI_vN])
      have hloose : ∀ i', 0 ≤ i' → i' < cnt → sq i' < vm (tkB JA t cnt) ∧ tkB JA t cnt (scI (sq i')) 15 = -1 ∧ tkB JA t cnt (scI (sq i')) 11 = 0 := fun i' _ hi => by
        obtain ⟨a1, a2⟩ := hcJ i' hi
        rw [hsqe]
        refine ⟨by rw [b4]; exact a1, b3 i' hi, ?_⟩
        rw [hBne _ _ (by unfold scI rwI; omega) (by unfold scI dyI; omega) (fun s => by omega)]
        refine Decidable.byContradiction (fun z => ?_)
        have z2 := hIA.2.2.2.2.2.2.2.2.1 _ a1 z
        rw [a2] at z2
        have h0 := nI_pos (n := t) (by omega)
        rw [z2] at h0
        exact absurd (by decide) h0
      obtain ⟨R, hR⟩ : ∃ R, R = mnR (vpn I) t sq cnt 0 0 (tkB JA t cnt) := ⟨_, rfl⟩
      have hRm : mnF I t (vpn I) = R := by
        have e1 : mnA I t = tkB JA t cnt := by unfold mnA; rw [← hJA, ← hcnt]
        have e2 : mnC I t = cnt := by unfold mnC; rw [← hcnt]
        unfold mnF
        rw [e1, e2, hR]
        congr 1
        funext i
        rw [h141, hsqe]
      obtain ⟨hIR, hfR⟩ := mn_ok (t := t) (pn := vpn I) (sq := sq) hsqx cnt 0 0 (tkB JA t cnt) (by omega) hIB hloose
      rw [← hR] at hIR hfR
      have key : ∀ J, Cr I J → ∃ J2, (∀ lg d, 9 ≤ d → m_W S (M_X11_mend, d, fun w9 g => w9 = some (.int (nI R.2)) ∧ g = hh J2 lg, fun _ _ => False) 35 [some (.ref 143), some (.int (nI t)), some (.int (bi true)), none, none, none, none] [] (hh J lg) 0 0) ∧ Cr R.1 J2 ∧ fQ J J2 ∧ J2 143 0 = J 143 0 := by
        intro J hJ
        have hCA : Cr JA (tqR I J t (vn I t)) := Cr_ref (by rw [hvmJ]; exact hm) (Cr_cls hm hJ (fun c d z _ _ _ => hJne c d (by omega))) (fun a b z1 z2 z3 => tqR_ne (by omega) _)
        have h6 : ∀ i', i' < cnt → tqR I J t (vn I t) 176 i' = JA 141 i' := fun i' hi => by rw [hJA]; exact tqR_eq (vn I t) i' (by rw [← hcnt]; exact hi)
        have hF : ∀ J, Cr (tkB JA t cnt) J → (∀ i', i' < cnt → J 176 i' = JA 141 i') → ∃ J2, (∀ lg d (x : Int32), 9 ≤ d → m_W S (M_X11_mend, d, fun w9 g => w9 = some (.int (nI R.2)) ∧ g = hh J2 lg, fun _ _ => False) 184 [some (.ref 143), some (.int (nI t)), some (.int (bi true)), some (.int x), some (.int (nI cnt)), some (.int (nI 0)), some (.int (nI 0))] [] (hh J lg) 0 0) ∧ Cr R.1 J2 ∧ fQ J J2 ∧ J2 143 0 = J 143 0 := fun J hJ h6 => by
          obtain ⟨J2, k1, k2, k3, k4, k5, k6⟩ := r_mendF (S := S) (t := t) (pn := vpn I) (sq := sq) hc hc8 hsqx cnt 0 0 (tkB JA t cnt) J (by omega) hIB hBpn hJ hloose (fun i' hi => (h6 i' hi).trans (by rw [hsqe]; exact (nI_vN _).symm))
          rw [← hR] at k1 k2
          exact ⟨J2, k1, k2, k4, k5⟩
        obtain ⟨J2, k1, k2, k3, k4⟩ := r_mendO (S := S) (r := nI R.2) (R := R.1) hIA ht hc8 hcJ hdis hF cnt 0 _ (by omega) hCA h6
        refine ⟨J2, fun lg d hd => r_mendA hd hV hS hJ ht (fun x d5 d6 => ?_), k2, fQ_tr (fun a b z => tqR_ne (by omega) _) k3, k4.trans (tqR_ne (by decide) _)⟩
        rw [← hcnt]
        refine ms_iconst (v := nI 0) dX11_mend_151 (by decide) ?_
        refine ms_istore dX11_mend_152 (Nat.le_of_ble_eq_true rfl) ?_
        exact k1 lg d x d6 hd
      have hcl : ∀ lg d, 9 ≤ d → m_R S M_X10_mend d [.ref 0, .int (nI t)] (hh I lg) (some (.int (nI R.2))) (hh R.1 lg) := fun lg d hd => by
        rw [← hRm]
        exact k_mend (by omega) hV hP ht hnt
      refine Okc_go _ hm hC hcl (fun a b h => (hfR a b h).trans ((tkB_hi ht (fun i hi => by have := (hcJ i hi).1; omega) cnt (Nat.le_refl _) a b h).trans (hJne _ _ (by omega)))) (Iv_same hIR (by omega) (fun _ _ _ => rfl)) (fun J J' hJ hC' hgw hne hz => ?_)
      obtain ⟨J2, k1, k2, k3, k4⟩ := key J' hC'
      refine ⟨J2, fun lg d hd => ?_, k2, k3, k4⟩
      have d1 := kr_dy1 (S := S) (h := hh J lg) (d := d - 1) (by omega) ht
      have n9 : J 143 1 = nI (vt I) := hJ.now.trans hnow
      refine ms_iload_n dX11_mend_0 rfl ?_
      refine qRS1 dX11_mend_1 kX11_168 (d := d - 1) (by show d - 1 + 1 ≤ d; omega) rfl (Nat.le_of_ble_eq_true rfl) (Nat.le_of_ble_eq_true rfl) (d1) rfl ?_
      refine ms_istore_n dX11_mend_4 (Nat.le_of_ble_eq_true rfl) ?_
      refine ms_aload_n dX11_mend_5 rfl ?_
      refine ms_iload_n dX11_mend_6 rfl ?_
      refine ms_if_ne (tgt := 14) dX11_mend_7 (by decide) (fun c7 => ?_) (fun c7 => absurd c7 (by decide))
      refine ms_iload_n dX11_mend_14 rfl ?_
      refine ms_aload_n dX11_mend_15 rfl ?_
      refine q_geti dX11_mend_16 fX11_192 (by rw [kd_11_1]; decide) (by first | decide | exact lt_sc (by omega) | exact lt_dy (by omega) | exact lt_rw (by omega) | exact lt_wa (by omega) | exact lt_le (by omega)) (by first | rfl | rw [sh_sc (by omega)] | rw [sh_dy (by omega)]) n9 ?_
      refine n_icmp_ge (tgt := 26) dX11_mend_19 (by decide) (by omega) (by omega) (fun c19 => ?_) (fun c19 => absurd c19 (by omega))
      refine ms_iconst (v := nI 0) dX11_mend_26 (by decide) ?_
      refine qRV1 dX11_mend_27 kX11_138 (by show _ < 178; first | decide | exact lt_sc (by omega) | exact lt_dy (by omega)) (by show (sh0 _).1 = _; first | rfl | rw [sh_sc (by omega)] | rw [sh_dy (by omega)]) (d := d - 1) (by show d - 1 + 1 ≤ d; omega) rfl (Nat.le_of_ble_eq_true rfl) (Nat.le_of_ble_eq_true rfl) (hgw _ _) rfl ?_
      refine ms_if_ne (tgt := 35) dX11_mend_30 (by decide) (fun c30 => ?_) (fun c30 => absurd c30 (by decide))
      exact k1 lg d hd
    · refine Okc_thr (k := 1) (E := xS) (b := some (.int (nI 0))) hI hC rfl (fun lg d hd => k_mendT2 (by omega) ht (by omega) hn30) (fun lg d hd => ?_)
      have d1 := kr_dy1 (S := S) (h := hh I lg) (d := d - 1) (by omega) ht
      have n9 : I 143 1 = nI (vt I) := hC.now.trans hnow
      refine ms_iload_n dX11_mend_0 rfl ?_
      refine qRS1 dX11_mend_1 kX11_168 (d := d - 1) (by show d - 1 + 1 ≤ d; omega) rfl (Nat.le_of_ble_eq_true rfl) (Nat.le_of_ble_eq_true rfl) (d1) rfl ?_
      refine ms_istore_n dX11_mend_4 (Nat.le_of_ble_eq_true rfl) ?_
      refine ms_aload_n dX11_mend_5 rfl ?_
      refine ms_iload_n dX11_mend_6 rfl ?_
      refine ms_if_ne (tgt := 14) dX11_mend_7 (by decide) (fun c7 => ?_) (fun c7 => absurd c7 (by decide))
      refine ms_iload_n dX11_mend_14 rfl ?_
      refine ms_aload_n dX11_mend_15 rfl ?_
      refine q_geti dX11_mend_16 fX11_192 (by rw [kd_11_1]; decide) (by first | decide | exact lt_sc (by omega) | exact lt_dy (by omega) | exact lt_rw (by omega) | exact lt_wa (by omega) | exact lt_le (by omega)) (by first | rfl | rw [sh_sc (by omega)] | rw [sh_dy (by omega)]) n9 ?_
      refine n_icmp_ge (tgt := 26) dX11_mend_19 (by decide) (by omega) (by omega) (fun c19 => absurd c19 (by omega)) (fun c19 => ?_)
      refine ms_iconst (v := nI 2) dX11_mend_22 (by decide) ?_
      refine ms_goto (tgt := 27) dX11_mend_23 (by decide) ?_
      refine qRV1 dX11_mend_27 kX11_138 (by show _ < 178; first | decide | exact lt_sc (by omega) | exact lt_dy (by omega)) (by show (sh0 _).1 = _; first | rfl | rw [sh_sc (by omega)] | rw [sh_dy (by omega)]) (d := d - 1) (by show d - 1 + 1 ≤ d; omega) rfl (Nat.le_of_ble_eq_true rfl) (Nat.le_of_ble_eq_true rfl) (kr_gwk 1 (by decide)) rfl ?_
      refine ms_if_ne (tgt := 35) dX11_mend_30 (by decide) (fun c30 => absurd c30 (by decide)) (fun c30 => ?_)
      refine ms_iconst (v := nI 0) dX11_mend_33 (by decide) ?_
      refine ms_iret dX11_mend_34 rfl rfl ⟨?_, ?_⟩
      · rfl
      · rfl
  · refine Okc_thr (k := 0) (E := xI) (b := some (.int (nI 0))) hI hC rfl (fun lg d hd => k_mendT1 (by omega) hx) (fun lg d hd => ?_)
    have d1 := kr_dy0 (S := S) (h := hh I lg) (d := d - 1) (by omega) hx
    refine ms_iload_n dX11_mend_0 rfl ?_
    refine qRS1 dX11_mend_1 kX11_168 (d := d - 1) (by show d - 1 + 1 ≤ d; omega) rfl (Nat.le_of_ble_eq_true rfl) (Nat.le_of_ble_eq_true rfl) (d1) rfl ?_
    refine ms_istore_n dX11_mend_4 (Nat.le_of_ble_eq_true rfl) ?_
    refine ms_aload_n dX11_mend_5 rfl ?_
    refine ms_iload_n dX11_mend_6 rfl ?_
    refine ms_if_ne (tgt := 14) dX11_mend_7 (by decide) (fun c7 => absurd c7 (by decide)) (fun c7 => ?_)
    refine ms_iconst (v := nI 1) dX11_mend_10 (by decide) ?_
    refine ms_goto (tgt := 27) dX11_mend_11 (by decide) ?_
    refine qRV1 dX11_mend_27 kX11_138 (by show _ < 178; first | decide | exact lt_sc (by omega) | exact lt_dy (by omega)) (by show (sh0 _).1 = _; first | rfl | rw [sh_sc (by omega)] | rw [sh_dy (by omega)]) (d := d - 1) (by show d - 1 + 1 ≤ d; omega) rfl (Nat.le_of_ble_eq_true rfl) (Nat.le_of_ble_eq_true rfl) (kr_gwk 0 (by decide)) rfl ?_
    refine ms_if_ne (tgt := 35) dX11_mend_30 (by decide) (fun c30 => absurd c30 (by decide)) (fun c30 => ?_)
    refine ms_iconst (v := nI 0) dX11_mend_33 (by decide) ?_
    refine ms_iret dX11_mend_34 rfl rfl ⟨?_, ?_⟩
    · rfl
    · rfl

