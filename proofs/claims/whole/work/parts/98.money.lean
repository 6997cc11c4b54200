-- NAME money
/-! calls: pay, cost -/
theorem s5_eq {x : Int32} {f : Nat → Bool} (hx : ∀ i, i < 32 → bt x i = (decide (i < 30) && f i)) : ∀ k, k < 30 → (4 < k ∧ s5R x k = true ↔ 5 ≤ stG2 f k) := by
  intro k hk
  rw [stG2_ok f k 5]
  have h31 : ∀ i, i < 32 → bt (nI 31) i = decide (i < 5) := by decide +kernel
  have key : 4 < k → (s5R x k = true ↔ ∀ i, i < 5 → bt x (k - 5 + i) = true) := by
    intro h4
    unfold s5R
    rw [decide_eq_true_iff]
    refine ⟨fun z i hi => ?_, fun z => b_ext (fun i hi => ?_)⟩
    · have e : bt ((x >>> (nI (k - 5) &&& 31)) &&& nI 31) i = bt (nI 31) i := congrArg (fun v => bt v i) z
      rw [b_and, b_sshr (k - 5) (by omega) x (by omega), h31 i (by omega), decide_eq_true hi, Bool.and_true, if_pos (by omega)] at e
      exact e
    · rw [b_and, b_sshr (k - 5) (by omega) x hi, h31 i hi]
      by_cases y : i < 5
      · rw [decide_eq_true y, Bool.and_true, if_pos (by omega)]
        exact z i y
      · rw [decide_eq_false y, Bool.and_false]
  refine ⟨fun ⟨z1, z2⟩ => ⟨z1, fun i hi => ?_⟩, fun ⟨z1, z2⟩ => ⟨z1, (key z1).mpr (fun i hi => ?_)⟩⟩
  · have e := (key z1).mp z2 (4 - i) (by omega)
    rw [hx _ (by omega), Bool.and_eq_true] at e
    rw [show k - 1 - i = k - 5 + (4 - i) by omega]
    exact e.2
  · rw [hx _ (by omega), decide_eq_true (by omega), Bool.true_and, show k - 5 + i = k - 1 - (4 - i) by omega]
    exact z2 (4 - i) (by omega)
theorem wkB_eq {x : Int32} {f : Nat → Bool} (hx : ∀ i, i < 32 → bt x i = (decide (i < 30) && f i)) {j : Nat} (hj : j < 5) : wkB x j = wkU f 30 j := by
  have h127 : ∀ i, i < 32 → bt (nI 127) i = decide (i < 7) := by decide +kernel
  have hb : ∀ i, i < 7 → bt (x >>> (nI (7 * j) &&& 31)) i = (decide (7 * j + i < 30) && f (7 * j + i)) := fun i hi => by
    rw [b_sshr (7 * j) (by omega) x (by omega)]
    by_cases z : 7 * j + i < 32
    · rw [if_pos z, hx _ z]
    · rw [if_neg z, hx 31 (by omega), decide_eq_false (show ¬ 7 * j + i < 30 by omega)]
      rfl
  unfold wkB
  by_cases z : (x >>> (nI (7 * j) &&& 31)) &&& nI 127 = 0
  · rw [decide_eq_true z]
    refine (anyB_f.mpr (fun d hd => ?_)).symm
    by_cases y : d / 7 = j
    · have e := and0.mp z (d - 7 * j) (by omega)
      rw [hb _ (by omega), h127 _ (by omega), decide_eq_true (show d - 7 * j < 7 by omega), Bool.and_true, show 7 * j + (d - 7 * j) = d by omega, decide_eq_true hd, Bool.true_and] at e
      rw [e]
      rfl
    · rw [decide_eq_false y, Bool.and_false]
  · rw [decide_eq_false z]
    rcases Bool.eq_false_or_eq_true (wkU f 30 j) with y | y
    · rw [y]; rfl
    · refine absurd (and0.mpr (fun i hi => ?_)) z
      rw [h127 i hi]
      by_cases w : i < 7
      · rw [hb i w, decide_eq_true w, Bool.and_true]
        by_cases v : 7 * j + i < 30
        · have e := anyB_f.mp y (7 * j + i) v
          rw [decide_eq_true (show (7 * j + i) / 7 = j by omega), Bool.and_true] at e
          rw [e, Bool.and_false]
        · rw [decide_eq_false v]; rfl
      · rw [decide_eq_false w, Bool.and_false]
theorem tm_eq {x dl : Int32} {f : Nat → Bool} (hx : ∀ i, i < 32 → bt x i = (decide (i < 30) && f i)) : tmR dl x = tmG dl f 30 := by
  have h1 : ∀ i, i < 30 → bt x i = f i := fun i hi => by rw [hx i (by omega), decide_eq_true hi, Bool.true_and]
  unfold tmR tmG
  rw [show pc x 30 = fb_ct f 30 from fb_ct_cong h1, show fb_ct (wkB x) 5 = wkN f 30 from fb_ct_cong (fun j hj => wkB_eq hx hj), ruG_cong 30 h1]
theorem bgC_sm {I G : m_I} {t j : Nat} {w pl : Nat → Nat} (hG : smC I G) (ht : t < 30) (hw : ∀ i, i ≤ j → w i < 20) : bgC G t w pl j = bgC I t w pl j := by
  have e0 : G (dyI t) 0 = I (dyI t) 0 := hG _ _ (by unfold dyI; omega) (Or.inl (by unfold dyI; omega))
  have ee : eiC G = eiC I := by
    unfold eiC
    rw [hG 73 0 (by decide) (Or.inl (by decide)), hG 73 1 (by decide) (Or.inl (by decide))]
  unfold bgC
  rw [e0]
  refine bgG_cong (fun i hi => ⟨?_, ?_⟩)
  · have := hw i hi
    unfold laC
    rw [ee]
    exact lasC_cong (fun b => hG _ _ (by unfold scI; omega) (Or.inl (by unfold scI; omega)))
  · unfold moC
    rw [mvC_cong (fun b => hG _ _ (by decide) (Or.inl (by decide)))]
theorem enC_sm {I G : m_I} {t j : Nat} {w pl : Nat → Nat} (hG : smC I G) (ht : t < 30) (hw : ∀ i, i ≤ j → w i < 20) : enC G t w pl j = enC I t w pl j := by
  have e := bgC_sm (pl := pl) hG ht hw
  have ee : eiC G = eiC I := by
    unfold eiC
    rw [hG 73 0 (by decide) (Or.inl (by decide)), hG 73 1 (by decide) (Or.inl (by decide))]
  have hj := hw j (Nat.le_refl _)
  have el : laC G w j = laC I w j := by
    unfold laC
    rw [ee]
    exact lasC_cong (fun b => hG _ _ (by unfold scI; omega) (Or.inl (by unfold scI; omega)))
  unfold enC enG
  rw [el]
  unfold bgC at e
  rw [e]
/-- what a person has: both sides alike, whatever stands in the clocks -/
theorem pay_eq {I J K : m_I} {p pn : Nat} (h : Cr I J) (hV : Vw I) (hK : smC I K) (hp : p < 8) (more : Bool) : (paC K (vn I) (vw I) (vq I) pn p more 30).1 = pyR J (vn I) (vw I) (vq I) p more := by
  obtain ⟨f, hf⟩ : ∃ f : Nat → Bool, f = fun t => bt (wkG (peC I (vw I t)) (vn I t)) p := ⟨_, rfl⟩
  have hft : ∀ t, f t = bt (wkG (peC I (vw I t)) (vn I t)) p := fun t => by rw [hf]
  obtain ⟨x, hx⟩ : ∃ x, x = dyR J (vn I) (vw I) p := ⟨_, rfl⟩
  have hxb : ∀ i, i < 32 → bt x i = (decide (i < 30) && f i) := fun i hi => by
    rw [hx]
    unfold dyR
    rw [dsR_bt _ 30 (Nat.le_refl _) i hi]
    by_cases z : i < 30
    · rw [decide_eq_true z, hft]
      unfold woR
      rw [orB_any, wkG_bt]
      congr 1
      exact anyB_cong (fun j hj => by rw [h.pe (Vw_w20 hV z hj)]; rfl)
    · rw [decide_eq_false z]; rfl
  have h1 : ∀ i, i < 30 → bt x i = f i := fun i hi => by rw [hxb i (by omega), decide_eq_true hi, Bool.true_and]
  have hra : K 67 p = I 67 p := hK _ _ (by decide) (Or.inl (by decide))
  have hde : K 66 p = I 66 p := hK _ _ (by decide) (Or.inl (by decide))
  have hG : ∀ k, smC I (pyJ K (vn I) (vw I) (vq I) pn k) := fun k => smC_tr hK smC_py
  have e1 : paC K (vn I) (vw I) (vq I) pn p more 30 = pyG (I 67 p) (I 66 p) more f (fun k => frD J k (vn I k) (vw I k) (vq I k) p) (fun k => toD J k (vn I k) (vw I k) (vq I k) p) 30 := by
    unfold paC
    rw [hra, hde]
    refine pyG_cong 30 (fun k hk => ?_)
    obtain ⟨G, hGe⟩ : ∃ G, G = pyJ K (vn I) (vw I) (vq I) pn k := ⟨_, rfl⟩
    have hGk : smC I G := by rw [hGe]; exact hG k
    have hpe : ∀ j, j < vn I k → peC G (vw I k) j = peC I (vw I k) j := fun j hj => by
      have := Vw_w20 hV hk hj
      exact hGk _ _ (by unfold scI; omega) (Or.inl (by unfold scI; omega))
    refine ⟨?_, fun hw => ?_⟩
    · unfold pwC
      rw [← hGe, wkG_cong hpe, hft]
    · rw [hft] at hw
      have c1 := ca_eq h hV hk hp true
      have c2 := ca_eq h hV hk hp false
      rw [hw] at c1 c2
      have c3 : toD J k (vn I k) (vw I k) (vq I k) p = wrC I k (vn I k) (vw I k) (vq I k) p := c1
      have c4 : frD J k (vn I k) (vw I k) (vq I k) p = clC I k (vn I k) (vw I k) (vq I k) p := c2
      have hpr : G 68 p = I 68 p := hGk _ _ (by decide) (Or.inl (by decide))
      unfold pcC prC
      rw [← hGe, c3, c4]
      unfold clC wrC
      rw [hpr]
      refine ⟨?_, ?_⟩
      · rw [clG_w (x := I 78 p) (y := G 78 p) hw]
        exact clG_cong (fun j hj => ⟨hpe j hj, bgC_sm hGk hk (fun i hi => Vw_w20 hV hk (by omega))⟩)
      · rw [wrG_w (x := I 79 p) (y := G 79 p) hw]
        exact wrG_cong (fun j hj => ⟨hpe j hj, enC_sm hGk hk (fun i hi => Vw_w20 hV hk (by omega))⟩)
  have e2 := (py_bs (rate := I 67 p) (deal := I 66 p) (more := more) (fr := fun k => frD J k (vn I k) (vw I k) (vq I k) p) (to := fun k => toD J k (vn I k) (vw I k) (vq I k) p) (s5_eq hxb) 30 (Nat.le_refl _)).2.2.2
  rw [e1, e2]
  unfold pyR bsS
  rw [← hx, h.ra hp, h.de hp, tm_eq hxb]
  congr 2
  exact (bsG_cong 30 (fun j hj => ⟨h1 j hj, fun _ => rfl⟩)).symm
theorem Iv_smC {c : Nat} {I K : m_I} (h : Iv c I) (hK : smC I K) {c2 : Nat} (hc : c ≤ c2) : Iv c2 K := Iv_same h hc (fun a b z => hK a b (by unfold usd at z; omega) (by unfold usd at z; omega))
theorem hen_all {I J : m_I} {pn : Nat} (h : Cr I J) (hV : Vw I) (hS : St I pn) : ∀ t j, t < 30 → j < vn I t → enR J t (vw I t) (vq I t) j ≠ -10000 := fun t j ht hj => by
  rw [Cr_en h hV ht hj]
  exact Bn_en2 hS.2.2.2 hV ht hj
theorem o_pay {S : m_S} {c : Nat} {I : m_I} (x : Int32) (q : Bool) (hc : c < 512) (hI : Iv c I) (hC : Cr I I) : Okc S c I M_X10_pay M_X11_pay [.ref 0, .int x, .int (bi q)] [.ref 143, .int x, .int (bi q)] [xI] := by
  have hV := hI.1
  have hm := hV.1
  have hP := Iv_Pn hI
  have hP2 := hP.2
  have hS := Iv_St hI (by omega)
  rcases ix_or x (n := vpn I) (by omega) with ⟨p, hp, rfl⟩ | hx
  · have hsm : smC I (pyJ I (vn I) (vw I) (vq I) (vpn I) 30) := smC_py
    refine Okc_go _ hm hC (fun lg d hd => k_pay q (by omega) (fun t ht => Vw_DyC hV ht) hP hp) (fun a b h => hsm a b (by omega) (by omega)) (Iv_smC hI hsm (by omega)) (fun J J' hJ hC' hgw hne hz => ?_)
    rw [pay_eq hC' hV (fun _ _ _ _ => rfl) (by omega) q]
    have hsr : smR J' (pjR J' (vn I) (vw I) (vq I) p) := smR_bs 30
    refine ⟨pjR J' (vn I) (vw I) (vq I) p, fun lg d hd => ?_, Cr_smC hm (Cr_smR hm hC' hsr) hsm, fQ_sm hsr, hsr _ _ (by decide)⟩
    have p1 := kr_pe1 (S := S) (J := J) (lg := lg) (d := d - 1) (by omega) (hJ.pn.trans hP.1) hP2 hp
    have hpa := kr_payOf (S := S) (lg := lg) (d := d - 1) (p := p) (pl := vq I) q (by omega) (fun t ht => hC'.dr hV ht) (fun t j ht hj => hC'.pq hV ht j hj) (by omega) (hen_all hC' hV hS)
    refine ms_aload_n dX11_pay_0 rfl ?_
    refine ms_aload_n dX11_pay_1 rfl ?_
    refine ms_iload_n dX11_pay_2 rfl ?_
    refine qRV1 dX11_pay_3 kX11_165 (by show _ < 178; first | decide | exact lt_sc (by omega) | exact lt_dy (by omega)) (by show (sh0 _).1 = _; first | rfl | rw [sh_sc (by omega)] | rw [sh_dy (by omega)]) (d := d - 1) (by show d - 1 + 1 ≤ d; omega) rfl (Nat.le_of_ble_eq_true rfl) (Nat.le_of_ble_eq_true rfl) (p1) rfl ?_
    refine ms_if_eq (tgt := 13) dX11_pay_6 (by decide) (fun c6 => absurd c6 (by decide)) (fun c6 => ?_)
    refine ms_iconst (v := nI 0) dX11_pay_9 (by decide) ?_
    refine ms_goto (tgt := 14) dX11_pay_10 (by decide) ?_
    refine qRV1 dX11_pay_14 kX11_138 (by show _ < 178; first | decide | exact lt_sc (by omega) | exact lt_dy (by omega)) (by show (sh0 _).1 = _; first | rfl | rw [sh_sc (by omega)] | rw [sh_dy (by omega)]) (d := d - 1) (by show d - 1 + 1 ≤ d; omega) rfl (Nat.le_of_ble_eq_true rfl) (Nat.le_of_ble_eq_true rfl) (hgw _ _) rfl ?_
    refine ms_if_eq (tgt := 29) dX11_pay_17 (by decide) (fun c17 => absurd c17 (by decide)) (fun c17 => ?_)
    refine ms_aload_n dX11_pay_20 rfl ?_
    refine ms_iload_n dX11_pay_21 rfl ?_
    refine ms_iload_n dX11_pay_22 rfl ?_
    refine qRV2 dX11_pay_23 kX11_238 (by show _ < 178; first | decide | exact lt_sc (by omega) | exact lt_dy (by omega)) (by show (sh0 _).1 = _; first | rfl | rw [sh_sc (by omega)] | rw [sh_dy (by omega)]) (d := d - 1) (by show d - 1 + 1 ≤ d; omega) rfl rfl (Nat.le_of_ble_eq_true rfl) (Nat.le_of_ble_eq_true rfl) (hpa) rfl ?_
    refine ms_goto (tgt := 30) dX11_pay_26 (by decide) ?_
    refine ms_iret dX11_pay_30 rfl rfl ⟨?_, ?_⟩
    · rfl
    · rfl
  · refine Okc_thr (k := 0) (E := xI) (b := some (.int (nI 0))) hI hC rfl (fun lg d hd => k_payT (by omega) hP hx) (fun lg d hd => ?_)
    have p1 := kr_pe0 (S := S) (J := I) (lg := lg) (d := d - 1) (by omega) (hC.pn.trans hP.1) hP2 hx
    refine ms_aload_n dX11_pay_0 rfl ?_
    refine ms_aload_n dX11_pay_1 rfl ?_
    refine ms_iload_n dX11_pay_2 rfl ?_
    refine qRV1 dX11_pay_3 kX11_165 (by show _ < 178; first | decide | exact lt_sc (by omega) | exact lt_dy (by omega)) (by show (sh0 _).1 = _; first | rfl | rw [sh_sc (by omega)] | rw [sh_dy (by omega)]) (d := d - 1) (by show d - 1 + 1 ≤ d; omega) rfl (Nat.le_of_ble_eq_true rfl) (Nat.le_of_ble_eq_true rfl) (p1) rfl ?_
    refine ms_if_eq (tgt := 13) dX11_pay_6 (by decide) (fun c6 => ?_) (fun c6 => absurd c6 (by decide))
    refine ms_iconst (v := nI 1) dX11_pay_13 (by decide) ?_
    refine qRV1 dX11_pay_14 kX11_138 (by show _ < 178; first | decide | exact lt_sc (by omega) | exact lt_dy (by omega)) (by show (sh0 _).1 = _; first | rfl | rw [sh_sc (by omega)] | rw [sh_dy (by omega)]) (d := d - 1) (by show d - 1 + 1 ≤ d; omega) rfl (Nat.le_of_ble_eq_true rfl) (Nat.le_of_ble_eq_true rfl) (kr_gwk 0 (by decide)) rfl ?_
    refine ms_if_eq (tgt := 29) dX11_pay_17 (by decide) (fun c17 => ?_) (fun c17 => absurd c17 (by decide))
    refine ms_iconst (v := nI 0) dX11_pay_29 (by decide) ?_
    refine ms_iret dX11_pay_30 rfl rfl ⟨?_, ?_⟩
    · rfl
    · rfl
/-- a sum of places' costs -/
def psG (b : Nat → Bool) (co : Nat → Int32) : Nat → Int32
  | 0 => nI 0
  | p + 1 => psG b co p + if b p then co p else nI 0
theorem psG_cong {b b' : Nat → Bool} {co co' : Nat → Int32} : ∀ n, (∀ p, p < n → b p = b' p ∧ co p = co' p) → psG b co n = psG b' co' n := by
  intro n
  induction n with
  | zero => exact fun _ => rfl
  | succ n ih =>
    intro h
    unfold psG
    rw [ih (fun p hp => h p (by omega)), (h n (by omega)).1, (h n (by omega)).2]
theorem psG_or {b : Nat → Bool} {co : Nat → Int32} {i : Nat} : ∀ n, psG (fun q => b q || decide (q = i)) co n = if i < n then (if b i then psG b co n else psG b co n + co i) else psG b co n := by
  intro n
  induction n with
  | zero => rfl
  | succ n ih =>
    have e : psG (fun q => b q || decide (q = i)) co (n + 1) = psG (fun q => b q || decide (q = i)) co n + if (b n || decide (n = i)) then co n else nI 0 := rfl
    have e2 : psG b co (n + 1) = psG b co n + if b n then co n else nI 0 := rfl
    have z0 : ∀ x : Int32, x + nI 0 = x := fun x => Int32.add_zero x
    rw [e, ih, e2]
    by_cases z : n = i
    · subst z
      rw [if_neg (Nat.lt_irrefl n), if_pos (Nat.lt_succ_self n), decide_eq_true rfl, Bool.or_true, if_pos rfl]
      cases b n
      · rw [if_neg Bool.false_ne_true, if_neg Bool.false_ne_true, z0]
      · rw [if_pos rfl, if_pos rfl]
    · rw [decide_eq_false z, Bool.or_false]
      obtain ⟨t, ht⟩ : ∃ t, t = (if b n = true then co n else nI 0) := ⟨_, rfl⟩
      rw [← ht]
      by_cases y : i < n
      · rw [if_pos y, if_pos (show i < n + 1 by omega)]
        cases b i
        · rw [if_neg Bool.false_ne_true, if_neg Bool.false_ne_true]
          ac_rfl
        · rw [if_pos rfl, if_pos rfl]
      · rw [if_neg y, if_neg (show ¬ i < n + 1 by omega)]
theorem cm_ps {pl : Nat → Nat} {co : Nat → Int32} {np : Nat} (hnp : np ≤ 6) : ∀ n, (∀ j, j < n → pl j < np) → psG (fun q => bt (spG pl n) q) co np = cmG pl co n := by
  intro n
  induction n with
  | zero =>
    intro _
    have e : ∀ m, psG (fun q => bt (spG pl 0) q) co m = nI 0 := by
      intro m
      induction m with
      | zero => rfl
      | succ m ih =>
        have e : psG (fun q => bt (spG pl 0) q) co (m + 1) = psG (fun q => bt (spG pl 0) q) co m + if bt (nI 0) m then co m else nI 0 := rfl
        rw [e, ih, show bt (nI 0) m = false from b_0 m, if_neg (by decide)]
        rfl
    exact e np
  | succ n ih =>
    intro h
    have h1 := ih (fun j hj => h j (by omega))
    have hn := h n (by omega)
    have e : psG (fun q => bt (spG pl (n + 1)) q) co np = psG (fun q => bt (spG pl n) q || decide (q = pl n)) co np := psG_cong np (fun p hp => ⟨by
      show bt (spG pl n ||| _) p = _
      rw [b_or, b_one (by omega) (by omega)], rfl⟩)
    rw [e, psG_or np, if_pos hn, h1]
    rfl
theorem r_costD {S : m_S} {I J : m_I} {np : Nat} {r : Int32} {lg : Int64} {d : Nat} (hd : 9 ≤ d) (h : Cr I J) (hV : Vw I) (hnp : vlc I = np) (hnp6 : np ≤ 6) (h4 : i4 I) (x : Int32) (hr : cdM I (vn I) (vq I) x 30 = r) : ∀ (q k : Nat) (d3 d4 : Option Value), k ≤ 30 → 30 - k < q → m_W S (M_X11_cost, d, fun w9 g => w9 = some (.int r) ∧ g = hh J lg, fun _ _ => False) 34 [some (.ref 143), some (.int (cdM I (vn I) (vq I) x k)), some (.int (nI k)), d3, d4] [] (hh J lg) 0 0 := by
  have hm := hV.1
  have hlc : J 143 28 = nI np := by rw [← hnp]; exact h.lc.trans (nI_vN _).symm
  intro q
  induction q with
  | zero => exact fun k _ _ _ hq => absurd hq (Nat.not_lt_zero _)
  | succ q ih =>
    intro k d3 d4 hk hq
    refine ms_iload_n dX11_cost_34 rfl ?_
    refine ms_bipush (v := nI 30) dX11_cost_35 (by decide) ?_
    refine n_icmp_ge (tgt := 131) dX11_cost_37 (by decide) (by omega) (by omega) (fun c37 => ?_) (fun c37 => ?_)
    · obtain rfl : k = 30 := by omega
      refine ms_iload_n dX11_cost_131 rfl ?_
      refine ms_iret dX11_cost_132 rfl rfl ⟨?_, ?_⟩
      · rw [hr]
      · rfl
    · have ht : k < 30 := by omega
      have hn8 := hV.2.1 k ht
      have hpl : ∀ j, j < vn I k → vq I k j < np := fun j hj => by
        rw [← hnp]
        exact h4 _ (hV.2.2.1 k j ht hj).1
      have hmn : J 172 k = nI (vn I k) := (h.dr hV ht).2.1
      have h9 := fun d3 d4 => ih (k + 1) d3 d4 (by omega) (by omega)
      obtain ⟨co, hco⟩ : ∃ co : Nat → Int32, co = fun p => I 70 p := ⟨_, rfl⟩
      obtain ⟨b, hb⟩ : ∃ b : Nat → Bool, b = fun q => bt (spG (vq I k) (vn I k)) q := ⟨_, rfl⟩
      obtain ⟨s, hs⟩ : ∃ s, s = cdM I (vn I) (vq I) x k := ⟨_, rfl⟩
      have e9 : cdM I (vn I) (vq I) x (k + 1) = s + psG b co np := by
        rw [hb, hco, cm_ps hnp6 (vn I k) hpl, hs]
        rfl
      rw [e9] at h9
      rw [← hs]
      have loop2 : ∀ (q p : Nat), p ≤ np → np - p < q → m_W S (M_X11_cost, d, fun w9 g => w9 = some (.int r) ∧ g = hh J lg, fun _ _ => False) 87 [some (.ref 143), some (.int (s + psG b co p)), some (.int (nI k)), some (.int (spG (vq I k) (vn I k))), some (.int (nI p))] [] (hh J lg) 0 0 := by
        intro q
        induction q with
        | zero => exact fun p _ hq => absurd hq (Nat.not_lt_zero _)
        | succ q ih2 =>
          intro p hp hq
          refine ms_iload dX11_cost_87 rfl ?_
          refine ms_aload_n dX11_cost_89 rfl ?_
          refine q_geti dX11_cost_90 fX11_124 (by rw [kd_11_28]; decide) (by first | decide | exact lt_sc (by omega) | exact lt_dy (by omega) | exact lt_rw (by omega) | exact lt_wa (by omega) | exact lt_le (by omega)) (by first | rfl | rw [sh_sc (by omega)] | rw [sh_dy (by omega)]) hlc ?_
          refine n_icmp_ge (tgt := 125) dX11_cost_93 (by decide) (by omega) (by omega) (fun c93 => ?_) (fun c93 => ?_)
          · obtain rfl : p = np := by omega
            refine n_iinc dX11_cost_125 rfl ?_
            refine ms_goto (tgt := 34) dX11_cost_128 (by decide) ?_
            exact h9 _ _
          · have h8 := ih2 (p + 1) (by omega) (by omega)
            have e8 : s + psG b co (p + 1) = s + psG b co p + (if b p then co p else nI 0) := by
              rw [Int32.add_assoc]
              rfl
            rw [e8] at h8
            have hcp : J 165 p = co p := by rw [hco]; exact h.co (by omega)
            refine ms_iload_n dX11_cost_96 rfl ?_
            refine ms_iload_n dX11_cost_97 rfl ?_
            refine ms_iload dX11_cost_98 rfl ?_
            refine qRS2 dX11_cost_100 kX11_158 (d := d - 1) (by show d - 1 + 1 ≤ d; omega) rfl rfl (Nat.le_of_ble_eq_true rfl) (Nat.le_of_ble_eq_true rfl) (kr_has (by omega)) rfl ?_
            refine ms_if_eq (tgt := 116) dX11_cost_103 (by decide) (fun c103 => ?_) (fun c103 => ?_)
            · have e7 : b p = false := by rw [hb]; exact bi_0.mp c103
              rw [e7] at h8
              refine ms_iconst (v := nI 0) dX11_cost_116 (by decide) ?_
              refine ms_iadd dX11_cost_117 ?_
              refine ms_istore_n dX11_cost_118 (Nat.le_of_ble_eq_true rfl) ?_
              refine n_iinc dX11_cost_119 rfl ?_
              refine ms_goto (tgt := 87) dX11_cost_122 (by decide) ?_
              exact h8
            · have e7 : b p = true := by rw [hb]; exact bi_n0.mp c103
              rw [e7] at h8
              refine ms_aload_n dX11_cost_106 rfl ?_
              refine q_getr dX11_cost_107 fX11_74 kd_11_29 (by first | decide | exact lt_sc (by omega) | exact lt_dy (by omega) | exact lt_rw (by omega) | exact lt_wa (by omega) | exact lt_le (by omega)) (by first | rfl | rw [sh_sc (by omega)] | rw [sh_dy (by omega)]) (by first | rfl | exact rf_wa (by omega) | exact rf_le (by omega) | exact rf_rw (by omega)) ?_
              refine ms_iload dX11_cost_110 rfl ?_
              refine q_iald dX11_cost_112 (by first | decide | exact lt_sc (by omega) | exact lt_dy (by omega) | exact lt_rw (by omega) | exact lt_wa (by omega) | exact lt_le (by omega)) (by first | rfl | exact sh_rw (by omega) | exact sh_wa (by omega) | exact sh_le (by omega)) (by omega) (by decide) hcp ?_
              refine ms_goto (tgt := 117) dX11_cost_113 (by decide) ?_
              refine ms_iadd dX11_cost_117 ?_
              refine ms_istore_n dX11_cost_118 (Nat.le_of_ble_eq_true rfl) ?_
              refine n_iinc dX11_cost_119 rfl ?_
              refine ms_goto (tgt := 87) dX11_cost_122 (by decide) ?_
              exact h8
      have loop1 : ∀ (q j : Nat), j ≤ vn I k → vn I k - j < q → m_W S (M_X11_cost, d, fun w9 g => w9 = some (.int r) ∧ g = hh J lg, fun _ _ => False) 45 [some (.ref 143), some (.int s), some (.int (nI k)), some (.int (spG (vq I k) j)), some (.int (nI j))] [] (hh J lg) 0 0 := by
        intro q
        induction q with
        | zero => exact fun p _ hq => absurd hq (Nat.not_lt_zero _)
        | succ q ih2 =>
          intro j hj hq
          refine ms_iload dX11_cost_45 rfl ?_
          refine ms_aload_n dX11_cost_47 rfl ?_
          refine q_getr dX11_cost_48 fX11_95 kd_11_36 (by first | decide | exact lt_sc (by omega) | exact lt_dy (by omega) | exact lt_rw (by omega) | exact lt_wa (by omega) | exact lt_le (by omega)) (by first | rfl | rw [sh_sc (by omega)] | rw [sh_dy (by omega)]) (by first | rfl | exact rf_wa (by omega) | exact rf_le (by omega) | exact rf_rw (by omega)) ?_
          refine ms_iload_n dX11_cost_51 rfl ?_
          refine q_iald dX11_cost_52 (by first | decide | exact lt_sc (by omega) | exact lt_dy (by omega) | exact lt_rw (by omega) | exact lt_wa (by omega) | exact lt_le (by omega)) (by first | rfl | exact sh_rw (by omega) | exact sh_wa (by omega) | exact sh_le (by omega)) (by omega) (by decide) hmn ?_
          refine n_icmp_ge (tgt := 84) dX11_cost_53 (by decide) (by omega) (by omega) (fun c53 => ?_) (fun c53 => ?_)
          · obtain rfl : j = vn I k := by omega
            have h7 := loop2 (np + 1) 0 (by omega) (by omega)
            rw [show s + psG b co 0 = s from Int32.add_zero s] at h7
            refine ms_iconst (v := nI 0) dX11_cost_84 (by decide) ?_
            refine ms_istore dX11_cost_85 (Nat.le_of_ble_eq_true rfl) ?_
            exact h7
          · have r9 := ((h.dr hV ht).2.2.2 j (by omega)).1
            have p9 := (h.pq hV ht j (by omega)).1
            have hw20 := Vw_w20 hV ht (j := j) (by omega)
            refine ms_iload_n dX11_cost_56 rfl ?_
            refine ms_iconst (v := nI 1) dX11_cost_57 (by decide) ?_
            refine ms_aload_n dX11_cost_58 rfl ?_
            refine q_getr dX11_cost_59 fX11_19 kd_11_7 (by first | decide | exact lt_sc (by omega) | exact lt_dy (by omega) | exact lt_rw (by omega) | exact lt_wa (by omega) | exact lt_le (by omega)) (by first | rfl | rw [sh_sc (by omega)] | rw [sh_dy (by omega)]) (by first | rfl | exact rf_wa (by omega) | exact rf_le (by omega) | exact rf_rw (by omega)) ?_
            refine ms_aload_n dX11_cost_62 rfl ?_
            refine q_getr dX11_cost_63 fX11_92 kd_11_35 (by first | decide | exact lt_sc (by omega) | exact lt_dy (by omega) | exact lt_rw (by omega) | exact lt_wa (by omega) | exact lt_le (by omega)) (by first | rfl | rw [sh_sc (by omega)] | rw [sh_dy (by omega)]) (by first | rfl | exact rf_wa (by omega) | exact rf_le (by omega) | exact rf_rw (by omega)) ?_
            refine ms_bipush (v := nI 8) dX11_cost_66 (by decide) ?_
            refine ms_iload_n dX11_cost_68 rfl ?_
            refine n_imul dX11_cost_69 ?_
            refine ms_iload dX11_cost_70 rfl ?_
            refine n_iadd dX11_cost_72 ?_
            refine q_iald dX11_cost_73 (by first | decide | exact lt_sc (by omega) | exact lt_dy (by omega) | exact lt_rw (by omega) | exact lt_wa (by omega) | exact lt_le (by omega)) (by first | rfl | exact sh_rw (by omega) | exact sh_wa (by omega) | exact sh_le (by omega)) (by omega) (by decide) r9 ?_
            refine q_iald dX11_cost_74 (by first | decide | exact lt_sc (by omega) | exact lt_dy (by omega) | exact lt_rw (by omega) | exact lt_wa (by omega) | exact lt_le (by omega)) (by first | rfl | exact sh_rw (by omega) | exact sh_wa (by omega) | exact sh_le (by omega)) (by omega) (by decide) p9 ?_
            refine ms_ishl dX11_cost_75 ?_
            refine ms_ior dX11_cost_76 ?_
            refine ms_istore_n dX11_cost_77 (Nat.le_of_ble_eq_true rfl) ?_
            refine n_iinc dX11_cost_78 rfl ?_
            refine ms_goto (tgt := 45) dX11_cost_81 (by decide) ?_
            exact ih2 (j + 1) (by omega) (by omega)
      refine ms_iconst (v := nI 0) dX11_cost_40 (by decide) ?_
      refine ms_istore_n dX11_cost_41 (Nat.le_of_ble_eq_true rfl) ?_
      refine ms_iconst (v := nI 0) dX11_cost_42 (by decide) ?_
      refine ms_istore dX11_cost_43 (Nat.le_of_ble_eq_true rfl) ?_
      exact loop1 (vn I k + 1) 0 (by omega) (by omega)
theorem r_costP {S : m_S} {c : Nat} {I K : m_I} {pn : Nat} {r : Int32} (hI : Iv c I) (hS : St I pn) (hr : cdM K (vn I) (vq I) (caM K (vn I) (vw I) (vq I) pn pn) 30 = r) (hK : smC I K) (hcd : ∀ J, cdM I (vn I) (vq I) J 30 = cdM K (vn I) (vq I) J 30) : ∀ (q k : Nat) (J : m_I), k + q = pn → Cr I J → ∃ J2, (∀ lg d, 9 ≤ d → m_W S (M_X11_cost, d, fun w9 g => w9 = some (.int r) ∧ g = hh J2 lg, fun _ _ => False) 9 [some (.ref 143), some (.int (caM K (vn I) (vw I) (vq I) pn k)), some (.int (nI k)), none, none] [] (hh J lg) 0 0) ∧ smR J J2 := by
  have hV := hI.1
  have hm := hV.1
  have hpn8 := hS.1.2
  intro q
  induction q with
  | zero =>
    intro k J hk hC
    obtain rfl : k = pn := by omega
    have hpn : J 143 22 = nI k := hC.pn.trans hS.1.1
    refine ⟨J, fun lg d hd => ?_, smR_id J⟩
    have h9 := r_costD (S := S) (r := r) (lg := lg) hd hC hV rfl hI.2.1.2.1 hI.2.2.2.1 (caM K (vn I) (vw I) (vq I) k k) ((hcd _).trans hr) 31 0 none none (by omega) (by omega)
    refine ms_iload_n dX11_cost_9 rfl ?_
    refine ms_aload_n dX11_cost_10 rfl ?_
    refine q_geti dX11_cost_11 fX11_121 (by rw [kd_11_22]; decide) (by first | decide | exact lt_sc (by omega) | exact lt_dy (by omega) | exact lt_rw (by omega) | exact lt_wa (by omega) | exact lt_le (by omega)) (by first | rfl | rw [sh_sc (by omega)] | rw [sh_dy (by omega)]) hpn ?_
    refine n_icmp_ge (tgt := 32) dX11_cost_14 (by decide) (by omega) (by omega) (fun c14 => ?_) (fun c14 => ?_)
    · refine ms_iconst (v := nI 0) dX11_cost_32 (by decide) ?_
      refine ms_istore_n dX11_cost_33 (Nat.le_of_ble_eq_true rfl) ?_
      exact h9
    · omega
  | succ q ih =>
    intro k J hk hC
    have hpn : J 143 22 = nI pn := hC.pn.trans hS.1.1
    have hsr : smR J (pjR J (vn I) (vw I) (vq I) k) := smR_bs 30
    obtain ⟨J2, g1, g2⟩ := ih (k + 1) _ (by omega) (Cr_smR hm hC hsr)
    refine ⟨J2, fun lg d hd => ?_, fun a b z => (g2 a b z).trans (hsr a b z)⟩
    have hpa := kr_payOf (S := S) (lg := lg) (d := d - 1) (p := k) (pl := vq I) false (by omega) (fun t ht => hC.dr hV ht) (fun t j ht hj => hC.pq hV ht j hj) (by omega) (hen_all hC hV hS)
    rw [← pay_eq (K := caJ K (vn I) (vw I) (vq I) pn k) (pn := pn) hC hV (smC_tr hK smC_ca) (by omega) false] at hpa
    have h8 := g1 lg d hd
    refine ms_iload_n dX11_cost_9 rfl ?_
    refine ms_aload_n dX11_cost_10 rfl ?_
    refine q_geti dX11_cost_11 fX11_121 (by rw [kd_11_22]; decide) (by first | decide | exact lt_sc (by omega) | exact lt_dy (by omega) | exact lt_rw (by omega) | exact lt_wa (by omega) | exact lt_le (by omega)) (by first | rfl | rw [sh_sc (by omega)] | rw [sh_dy (by omega)]) hpn ?_
    refine n_icmp_ge (tgt := 32) dX11_cost_14 (by decide) (by omega) (by omega) (fun c14 => ?_) (fun c14 => ?_)
    · omega
    · refine ms_iload_n dX11_cost_17 rfl ?_
      refine ms_aload_n dX11_cost_18 rfl ?_
      refine ms_iload_n dX11_cost_19 rfl ?_
      refine ms_iconst (v := nI 0) dX11_cost_20 (by decide) ?_
      refine qRV2 dX11_cost_21 kX11_238 (by show _ < 178; first | decide | exact lt_sc (by omega) | exact lt_dy (by omega)) (by show (sh0 _).1 = _; first | rfl | rw [sh_sc (by omega)] | rw [sh_dy (by omega)]) (d := d - 1) (by show d - 1 + 1 ≤ d; omega) rfl rfl (Nat.le_of_ble_eq_true rfl) (Nat.le_of_ble_eq_true rfl) (hpa) rfl ?_
      refine ms_iadd dX11_cost_24 ?_
      refine ms_istore_n dX11_cost_25 (Nat.le_of_ble_eq_true rfl) ?_
      refine n_iinc dX11_cost_26 rfl ?_
      refine ms_goto (tgt := 9) dX11_cost_29 (by decide) ?_
      exact h8
theorem o_cost {S : m_S} {c : Nat} {I : m_I} (hc : c < 512) (hI : Iv c I) (hC : Cr I I) : Okc S c I M_X10_cost M_X11_cost [.ref 0] [.ref 143] [] := by
  have hV := hI.1
  have hm := hV.1
  have hP := Iv_Pn hI
  have hS := Iv_St hI (by omega)
  have hsm : smC I (caJ I (vn I) (vw I) (vq I) (vpn I) (vpn I)) := smC_ca
  refine Okc_ok hm hC (fun lg d hd => k_cost (by omega) (fun t ht => Vw_DyC hV ht) hP) (fun a b h => hsm a b (by omega) (by omega)) (Iv_smC hI hsm (by omega)) (fun J hJ => ?_)
  obtain ⟨J', hJ'⟩ : ∃ J', J' = m_up2 J 143 0 (nI 0) := ⟨_, rfl⟩
  have hC' : Cr I J' := by rw [hJ']; exact Cr_thr hm hJ _
  obtain ⟨J2, g1, g2⟩ := r_costP (S := S) (K := I) hI hS rfl (fun _ _ _ _ => rfl) (fun _ => rfl) (vpn I) 0 J' (by omega) hC'
  refine ⟨J2, fun lg d hd => ?_, Cr_smC hm (Cr_smR hm hC' g2) hsm, fQ_tr (by rw [hJ']; exact fQ_up (by decide)) (fQ_sm g2), (g2 _ _ (by decide)).trans (by rw [hJ']; exact m_up2_eq)⟩
  have h8 := g1 lg d hd
  refine ms_aload_n dX11_cost_0 rfl ?_
  refine ms_iconst (v := nI 0) dX11_cost_1 (by decide) ?_
  refine q_puti dX11_cost_2 fX11_110 pX11_11_0 kd_11_0 (by first | decide | exact lt_sc (by omega) | exact lt_dy (by omega) | exact lt_rw (by omega) | exact lt_wa (by omega) | exact lt_le (by omega)) (by first | rfl | rw [sh_sc (by omega)] | rw [sh_dy (by omega)]) ?_
  rw [← hJ']
  refine ms_iconst (v := nI 0) dX11_cost_5 (by decide) ?_
  refine ms_istore_n dX11_cost_6 (Nat.le_of_ble_eq_true rfl) ?_
  refine ms_iconst (v := nI 0) dX11_cost_7 (by decide) ?_
  refine ms_istore_n dX11_cost_8 (Nat.le_of_ble_eq_true rfl) ?_
  exact h8

