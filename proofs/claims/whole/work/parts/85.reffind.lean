-- NAME reffind
/-! the reference: scenes without faults, the first day -/
theorem faC_lt {I : m_I} {t n : Nat} {w pl : Nat → Nat} {pn m a : Nat} : faC I t n w pl pn m a < 64 := by
  have hb : ∀ c k, b2n c k ≤ k := fun c k => by unfold b2n; split <;> omega
  unfold faC faN fa1 fa2 fa3 fa4 fa5 fa6
  have := hb (bt (rdI I t n w pl pn (dyI t) 4) (pl a)) 1
  have := hb (wlC (rdI I t n w pl pn) (w a) && dkC (rdI I t n w pl pn) t a) 2
  have := hb (!decide (rdI I t n w pl pn (scI (w a)) 4 &&& rdI I t n w pl pn (dyI t) 3 = 0)) 4
  have := hb (!decide (rdI I t n w pl pn (scI (w a)) 4 &&& rdI I t n w pl pn 75 9 = 0)) 8
  have := hb (eaC (rdI I t n w pl pn) w (w a) a m) 16
  have := hb (!decide (rdI I t n w pl pn 75 10 = 0)) 32
  omega
def faV (I : m_I) (t pn k : Nat) : Nat := faC I t (vn I t) (vw I t) (vq I t) pn (vm I) k
def flS (I : m_I) (t pn : Nat) : Int32 := stG (fun k => decide (faV I t pn k = 0)) (vw I t) (vn I t)
theorem kr_faultless {S : m_S} {I J : m_I} {t pn : Nat} (h : Cr I J) (hV : Vw I) (hS : St I pn) (ht : t < 30) : ∃ J2, (∀ lg d, 4 ≤ d → m_R S M_X11_faultless d [.ref 143, .int (nI t)] (hh J lg) (some (.int (flS I t pn))) (hh J2 lg)) ∧ smR J J2 := by
  have hm := hV.1
  have hn8 := hV.2.1 t ht
  obtain ⟨J2, hJ2⟩ : ∃ J2, J2 = rrM J (bgR J t (vw I t) (vq I t)) (enR J t (vw I t) (vq I t)) (vn I t) := ⟨_, rfl⟩
  have hs : smR J J2 := by rw [hJ2]; exact smR_rr (smR_id J) _ _ _
  have h2 : Cr I J2 := Cr_smR hm h hs
  have hT : Tk I J2 t := by rw [hJ2]; exact Tk_rr h hV ht J
  have hD := h2.dr hV ht
  have hmn := hD.2.1
  refine ⟨J2, fun lg d hd => ?_, hs⟩
  have hc : m_R S M_X11_clock (d - 1) [.ref 143, .int (nI t)] (hh J lg) none (hh J2 lg) := by rw [hJ2]; exact kr_clockV (by omega) h hV ht (smR_id J)
  obtain ⟨c, hc9⟩ : ∃ c : Nat → Bool, c = fun k => decide (faV I t pn k = 0) := ⟨_, rfl⟩
  have hfl : flS I t pn = stG c (vw I t) (vn I t) := by rw [hc9]; rfl
  rw [hfl]
  have loop : ∀ (q k : Nat) (d4 : Option Value), k ≤ (vn I t) → (vn I t) - k < q → m_W S (M_X11_faultless, d, fun w9 g9 => w9 = some (.int (stG c (vw I t) (vn I t))) ∧ g9 = hh (J2) lg, fun _ _ => False) 9 [some (.ref 143), some (.int (nI t)), some (.int (stG c (vw I t) k)), some (.int (nI k)), d4] [] (hh (J2) lg) 0 0 := by
    intro q
    induction q with
    | zero => intro k d4 _ h; omega
    | succ q ih =>
      intro k d4 hk hq
      refine ms_iload_n dX11_faultless_9 rfl ?_
      refine ms_aload_n dX11_faultless_10 rfl ?_
      refine q_getr dX11_faultless_11 fX11_95 kd_11_36 (by first | decide | exact lt_sc (by omega) | exact lt_dy (by omega) | exact lt_rw (by omega) | exact lt_wa (by omega) | exact lt_le (by omega)) (by first | rfl | rw [sh_sc (by omega)] | rw [sh_dy (by omega)]) (by first | rfl | exact rf_wa (by omega) | exact rf_le (by omega) | exact rf_rw (by omega)) ?_
      refine ms_iload_n dX11_faultless_14 rfl ?_
      refine q_iald dX11_faultless_15 (by first | decide | exact lt_sc (by omega) | exact lt_dy (by omega) | exact lt_rw (by omega) | exact lt_wa (by omega) | exact lt_le (by omega)) (by first | rfl | exact sh_rw (by omega) | exact sh_wa (by omega) | exact sh_le (by omega)) (by omega) (by decide) (by first | assumption | ((repeat ((with_reducible apply m_up2_tr); · first | omega | (intro z; (try unfold scI at z); (try unfold dyI at z); (try unfold rwI at z); (try unfold waI at z); (try unfold leI at z); omega))); first | assumption | exact m_up2_eq | rfl)) ?_
      refine n_icmp_ge (tgt := 58) dX11_faultless_16 (by decide) (by omega) (by omega) (fun c16 => ?_) (fun c16 => ?_)
      · obtain rfl : k = vn I t := by omega
        refine ms_iload_n dX11_faultless_58 rfl ?_
        refine ms_iret dX11_faultless_59 rfl rfl ⟨?_, ?_⟩
        · rfl
        · rfl
      · have hk2 : k < vn I t := by omega
        have hfa := kr_faultsV (S := S) (lg := lg) (d := d - 1) (by omega) h2 hV hS ht hk2 hT
        have h9 := fun d4 => ih (k + 1) d4 (by omega) (by omega)
        have e : stG c (vw I t) (k + 1) = stG c (vw I t) k ||| (if c k then nI 1 <<< (nI (vw I t k) &&& 31) else nI 0) := rfl
        have hlt : faV I t pn k < 64 := faC_lt
        refine ms_aload_n dX11_faultless_19 rfl ?_
        refine q_getr dX11_faultless_20 fX11_92 kd_11_35 (by first | decide | exact lt_sc (by omega) | exact lt_dy (by omega) | exact lt_rw (by omega) | exact lt_wa (by omega) | exact lt_le (by omega)) (by first | rfl | rw [sh_sc (by omega)] | rw [sh_dy (by omega)]) (by first | rfl | exact rf_wa (by omega) | exact rf_le (by omega) | exact rf_rw (by omega)) ?_
        refine ms_bipush (v := nI 8) dX11_faultless_23 (by decide) ?_
        refine ms_iload_n dX11_faultless_25 rfl ?_
        refine n_imul dX11_faultless_26 ?_
        refine ms_iload_n dX11_faultless_27 rfl ?_
        refine n_iadd dX11_faultless_28 ?_
        refine q_iald dX11_faultless_29 (by first | decide | exact lt_sc (by omega) | exact lt_dy (by omega) | exact lt_rw (by omega) | exact lt_wa (by omega) | exact lt_le (by omega)) (by first | rfl | exact sh_rw (by omega) | exact sh_wa (by omega) | exact sh_le (by omega)) (by omega) (by decide) (hD.2.2.2 k hk2).1 ?_
        refine ms_istore dX11_faultless_30 (Nat.le_of_ble_eq_true rfl) ?_
        refine ms_iload_n dX11_faultless_32 rfl ?_
        refine ms_aload_n dX11_faultless_33 rfl ?_
        refine ms_iload dX11_faultless_34 rfl ?_
        refine qRV1 dX11_faultless_36 kX11_202 (by show _ < 178; first | decide | exact lt_sc (by omega) | exact lt_dy (by omega)) (by show (sh0 _).1 = _; first | rfl | rw [sh_sc (by omega)] | rw [sh_dy (by omega)]) (d := d - 1) (by show d - 1 + 1 ≤ d; omega) rfl (Nat.le_of_ble_eq_true rfl) (Nat.le_of_ble_eq_true rfl) (hfa) rfl ?_
        refine ms_if_ne (tgt := 49) dX11_faultless_39 (by decide) (fun c39 => ?_) (fun c39 => ?_)
        · have e2 : c k = false := by
            rw [hc9]
            refine decide_eq_false (fun z => c39 ?_)
            show nI (faV I t pn k) = 0
            rw [z]; rfl
          rw [e, e2] at h9
          refine ms_iconst (v := nI 0) dX11_faultless_49 (by decide) ?_
          refine ms_ior dX11_faultless_50 ?_
          refine ms_istore_n dX11_faultless_51 (Nat.le_of_ble_eq_true rfl) ?_
          refine n_iinc dX11_faultless_52 rfl ?_
          refine ms_goto (tgt := 9) dX11_faultless_55 (by decide) ?_
          exact h9 _
        · have e2 : c k = true := by
            rw [hc9]
            exact decide_eq_true ((nI_eq (b := 0) (by omega) (by omega)).mp c39)
          rw [e, e2] at h9
          refine ms_iconst (v := nI 1) dX11_faultless_42 (by decide) ?_
          refine ms_iload dX11_faultless_43 rfl ?_
          refine ms_ishl dX11_faultless_45 ?_
          refine ms_goto (tgt := 50) dX11_faultless_46 (by decide) ?_
          refine ms_ior dX11_faultless_50 ?_
          refine ms_istore_n dX11_faultless_51 (Nat.le_of_ble_eq_true rfl) ?_
          refine n_iinc dX11_faultless_52 rfl ?_
          refine ms_goto (tgt := 9) dX11_faultless_55 (by decide) ?_
          exact h9 _
  refine ms_iconst (v := nI 0) dX11_faultless_0 (by decide) ?_
  refine ms_istore_n dX11_faultless_1 (Nat.le_of_ble_eq_true rfl) ?_
  refine ms_aload_n dX11_faultless_2 rfl ?_
  refine ms_iload_n dX11_faultless_3 rfl ?_
  refine qRV1 dX11_faultless_4 kX11_199 (by show _ < 178; first | decide | exact lt_sc (by omega) | exact lt_dy (by omega)) (by show (sh0 _).1 = _; first | rfl | rw [sh_sc (by omega)] | rw [sh_dy (by omega)]) (d := d - 1) (by show d - 1 + 1 ≤ d; omega) rfl (Nat.le_of_ble_eq_true rfl) (Nat.le_of_ble_eq_true rfl) (hc) rfl ?_
  refine ms_iconst (v := nI 0) dX11_faultless_7 (by decide) ?_
  refine ms_istore_n dX11_faultless_8 (Nat.le_of_ble_eq_true rfl) ?_
  exact loop (vn I t + 1) 0 none (by omega) (by omega)
theorem fsG_bt {fa : Nat → Nat} {i : Nat} (hi : i < 32) : ∀ k, k ≤ 32 → (bt (fsG fa k) i = true ↔ i < k ∧ fa i = 0) := by
  intro k
  induction k with
  | zero => exact fun _ => ⟨fun z => absurd ((b_0 i).symm.trans z) (by decide), fun z => absurd z.1 (Nat.not_lt_zero i)⟩
  | succ k ih =>
    intro hk
    have h1 := ih (by omega)
    unfold fsG
    by_cases z : fa k = 0
    · rw [if_pos z, b_or, b_one (by omega) hi, Bool.or_eq_true, h1, decide_eq_true_iff]
      refine ⟨fun y => ?_, fun y => ?_⟩
      · rcases y with y | y
        · exact ⟨by omega, y.2⟩
        · subst y
          exact ⟨by omega, z⟩
      · by_cases e : i = k
        · exact Or.inr e
        · exact Or.inl ⟨by omega, y.2⟩
    · rw [if_neg z, h1]
      refine ⟨fun y => ⟨by omega, y.2⟩, fun y => ⟨?_, y.2⟩⟩
      have : i ≠ k := fun e => z (by rw [← e]; exact y.2)
      omega
theorem and0s {x y : Int32} : x &&& (y ^^^ -1) = 0 ↔ ∀ i, i < 32 → bt x i = true → bt y i = true := by
  rw [and0]
  refine ⟨fun h i hi z => ?_, fun h i hi => ?_⟩
  · have h1 := h i hi
    rw [b_xor, b_m1 i hi, z] at h1
    cases hy : bt y i
    · rw [hy] at h1; cases h1
    · rfl
  · rw [b_xor, b_m1 i hi]
    cases hx : bt x i
    · rfl
    · rw [h i hi hx]; rfl
theorem vn_P2 {I : m_I} {s t pn : Nat} (hs : s < 20) (hn : vn I t < 8) : vn (ftP2 I s t pn) t = vn I t + 1 := by
  unfold vn
  rw [show ftP2 I s t pn (dyI t) 6 = nI (vn I t + 1) from puI_n hs]
  exact vN_nI (by unfold vn at hn ⊢; omega)
theorem vw_P2 {I : m_I} {s t pn j : Nat} (hs : s < 20) (ht : t < 30) (hj : j ≤ vn I t) : vw (ftP2 I s t pn) t j = if j = vn I t then s else vw I t j := by
  unfold vw
  have e : ftP2 I s t pn (rwI t) j = if j = vn I t then nI s else shI (rdV I t pn) (rwI t) (vn I t) (vn I t) (rwI t) j := puI_r hs
  rw [e]
  split
  · exact vN_nI (by omega)
  · rw [shI_0]
    exact congrArg vN (rdI_row ht)
theorem ftO_eq {I : m_I} {s t pn : Nat} (hV : Vw I) (hs : s < vm I) (hd : I (scI s) 15 = -1) (ht : t < 30) (hn : vn I t < 8) : ftO I s t pn = decide ((flS I t pn ||| (nI 1 <<< (nI s &&& 31))) &&& (flS (ftP2 I s t pn) t pn ^^^ -1) = 0) := by
  have hm := hV.1
  have hs20 : s < 20 := by omega
  have hV2 := ftP2_ok (pn := pn) hV hs hd ht hn
  have en := vn_P2 (pn := pn) hs20 hn
  have ew : ∀ j, j ≤ vn I t → vw (ftP2 I s t pn) t j = if j = vn I t then s else vw I t j := fun j hj => vw_P2 hs20 ht hj
  obtain ⟨fa, hfa⟩ : ∃ f, f = faV I t pn := ⟨_, rfl⟩
  obtain ⟨fb, hfb⟩ : ∃ f, f = faV (ftP2 I s t pn) t pn := ⟨_, rfl⟩
  have e1 : fsV I t pn = fsG fa (vn I t) := by rw [hfa]; rfl
  have e2 : fsV (ftP2 I s t pn) t pn = fsG fb (vn I t + 1) := by rw [hfb, ← en]; rfl
  have e3 : flS I t pn = stG (fun k => decide (fa k = 0)) (vw I t) (vn I t) := by rw [hfa]; rfl
  have e4 : flS (ftP2 I s t pn) t pn = stG (fun k => decide (fb k = 0)) (vw (ftP2 I s t pn) t) (vn I t + 1) := by rw [hfb, ← en]; rfl
  have hw1 : ∀ j, j < vn I t → vw I t j < 32 := fun j hj => by have := Vw_w20 hV ht hj; omega
  have hw2 : ∀ j, j < vn I t + 1 → vw (ftP2 I s t pn) t j < 32 := fun j hj => by
    rw [ew j (by omega)]
    split
    · omega
    · exact hw1 j (by omega)
  have hx2 : ∀ i j, i < vn I t + 1 → j < vn I t + 1 → vw (ftP2 I s t pn) t i = vw (ftP2 I s t pn) t j → i = j := fun i j hi hj e => hV2.2.2.2.1 t i j ht (by rw [en]; exact hi) (by rw [en]; exact hj) e
  have ewn : vw (ftP2 I s t pn) t (vn I t) = s := by rw [ew _ (Nat.le_refl _), if_pos rfl]
  have ewj : ∀ j, j < vn I t → vw (ftP2 I s t pn) t j = vw I t j := fun j hj => by rw [ew j (by omega), if_neg (by omega)]
  have h1 : (fsG fa (vn I t) ||| (nI 1 <<< (nI (vn I t) &&& 31))) &&& (fsG fb (vn I t + 1) ^^^ -1) = 0 ↔ (∀ j, j < vn I t → fa j = 0 → fb j = 0) ∧ fb (vn I t) = 0 := by
    rw [and0s]
    refine ⟨fun z => ⟨fun j hj e => ?_, ?_⟩, fun ⟨z1, z2⟩ i hi e => ?_⟩
    · have y := z j (by omega) (by rw [b_or, (fsG_bt (by omega) _ (by omega)).mpr ⟨hj, e⟩]; rfl)
      exact ((fsG_bt (by omega) _ (by omega)).mp y).2
    · have y := z (vn I t) (by omega) (by rw [b_or, b_one (by omega) (by omega), decide_eq_true rfl, Bool.or_true])
      exact ((fsG_bt (by omega) _ (by omega)).mp y).2
    · rw [b_or, b_one (by omega) hi, Bool.or_eq_true, fsG_bt hi _ (by omega), decide_eq_true_iff] at e
      rw [fsG_bt hi _ (by omega)]
      rcases e with e | e
      · exact ⟨by omega, z1 i e.1 e.2⟩
      · rw [e]
        exact ⟨by omega, z2⟩
  have h2 : (stG (fun k => decide (fa k = 0)) (vw I t) (vn I t) ||| (nI 1 <<< (nI s &&& 31))) &&& (stG (fun k => decide (fb k = 0)) (vw (ftP2 I s t pn) t) (vn I t + 1) ^^^ -1) = 0 ↔ (∀ j, j < vn I t → fa j = 0 → fb j = 0) ∧ fb (vn I t) = 0 := by
    rw [and0s]
    refine ⟨fun z => ⟨fun j hj e => ?_, ?_⟩, fun ⟨z1, z2⟩ i hi e => ?_⟩
    · have y := z (vw I t j) (hw1 j hj) (by rw [b_or, (stG_bt (hw1 j hj) _ hw1).mpr ⟨j, hj, decide_eq_true e, rfl⟩]; rfl)
      obtain ⟨k, k1, k2, k3⟩ := (stG_bt (hw1 j hj) _ hw2).mp y
      rw [← ewj j hj] at k3
      have := hx2 k j k1 (by omega) k3
      subst this
      exact of_decide_eq_true k2
    · have y := z s (by omega) (by rw [b_or, b_one (by omega) (by omega), decide_eq_true rfl, Bool.or_true])
      obtain ⟨k, k1, k2, k3⟩ := (stG_bt (by omega) _ hw2).mp y
      have := hx2 k (vn I t) k1 (by omega) (k3.trans ewn.symm)
      subst this
      exact of_decide_eq_true k2
    · rw [b_or, b_one (by omega) hi, Bool.or_eq_true, stG_bt hi _ hw1, decide_eq_true_iff] at e
      rw [stG_bt hi _ hw2]
      rcases e with ⟨j, j1, j2, j3⟩ | e
      · exact ⟨j, by omega, decide_eq_true (z1 j j1 (of_decide_eq_true j2)), (ewj j j1).trans j3⟩
      · exact ⟨vn I t, by omega, decide_eq_true z2, ewn.trans e.symm⟩
  unfold ftO
  rw [e1, e2, e3, e4]
  by_cases z : (∀ j, j < vn I t → fa j = 0 → fb j = 0) ∧ fb (vn I t) = 0
  · rw [decide_eq_true (h1.mpr z), decide_eq_true (h2.mpr z)]
  · rw [decide_eq_false (fun y => z (h1.mp y)), decide_eq_false (fun y => z (h2.mp y))]
/-- what the reference's own methods leave alone -/
def fR (I J : m_I) : Prop := ∀ a b, a < 143 ∨ (a = 143 ∧ b = 0) ∨ a = 176 → J a b = I a b
theorem fR_id (I : m_I) : fR I I := fun _ _ _ => rfl
theorem fR_tr {I J K : m_I} (h : fR I J) (h2 : fR J K) : fR I K := fun a b z => (h2 a b z).trans (h a b z)
theorem fR_sm {I J : m_I} (h : smR I J) : fR I J := fun a b z => h a b (by omega)
theorem fR_on {I : m_I} {s t a n : Nat} : fR I (onR I s t a n) := fun x y z => (m_up2_ne (by omega)).trans ((m_up2_ne (by omega)).trans ((m_up2_ne (by omega)).trans (shI_ne (by omega))))
theorem fR_of {I : m_I} {s t a n : Nat} : fR I (ofR I s t a n) := fun x y z => (m_up2_ne (by omega)).trans ((m_up2_ne (by omega)).trans (deI_ne (by omega)))
theorem smC_rdV {I : m_I} {t pn : Nat} : smC I (rdV I t pn) := fun a b h1 h2 => rdV_ne h1 h2
theorem St_rd {I : m_I} {t pn p2 : Nat} (hm : vm I ≤ 20) (h : St I p2) : St (rdV I t pn) p2 := St_cong hm h (fun c d h1 _ _ => rdV_ne (by omega) (by omega)) (fun t ht => rdI_day ht)
theorem St_P2 {I : m_I} {s t pn p2 : Nat} (hs : s < 20) (hm : vm I ≤ 20) (h : St I p2) : St (ftP2 I s t pn) p2 := St_cong hm h (fun c d h1 h2 h3 => ftP2_ne (by omega) (by unfold rwI; omega) (by unfold dyI; omega) (by unfold scI; omega)) (fun t2 ht => ftP2_ne (by unfold dyI; omega) (by unfold dyI rwI; omega) (by unfold dyI; omega) (by unfold dyI scI; omega))
theorem St_J {I : m_I} {s t pn p2 : Nat} (hs : s < 20) (hm : vm I ≤ 20) (h : St I p2) : St (ftJ I s t pn) p2 := St_cong hm h (fun c d h1 h2 h3 => ftJ_ne (by omega) (by unfold rwI; omega) (by unfold dyI; omega) (by unfold scI; omega)) (fun t2 ht => ftJ_ne (by unfold dyI; omega) (by unfold dyI rwI; omega) (by unfold dyI; omega) (by unfold dyI scI; omega))
theorem kr_find {S : m_S} {s pn : Nat} {bf : Int32} : ∀ (k t : Nat) (I J : m_I), t + k = 30 → Vw I → St I pn → Cr I J → s < vm I → I (scI s) 15 = -1 → ∃ J2, (∀ lg d d4, 5 ≤ d → m_W S (M_X11_find, d, fun w9 g => w9 = some (.int (bi (fdR s pn bf k t I).2)) ∧ g = hh J2 lg, fun _ _ => False) 5 [some (.ref 143), some (.int (nI s)), some (.int bf), some (.int (nI t)), d4] [] (hh J lg) 0 0) ∧ Cr (fdR s pn bf k t I).1 J2 ∧ fR J J2 := by
  intro k
  induction k with
  | zero =>
    intro t I J ht hV hS h hs hdy
    obtain rfl : t = 30 := by omega
    refine ⟨J, fun lg d d4 hd => ?_, h, fR_id J⟩
    refine ms_iload_n dX11_find_5 rfl ?_
    refine ms_bipush (v := nI 30) dX11_find_6 (by decide) ?_
    refine n_icmp_ge (tgt := 76) dX11_find_8 (by decide) (by omega) (by omega) (fun c8 => ?_) (fun c8 => ?_)
    · refine ms_iconst (v := nI 0) dX11_find_76 (by decide) ?_
      refine ms_zret dX11_find_77 rfl rfl (by first | exact Or.inl (by decide) | exact Or.inr (by decide) | assumption | exact bi_01 _) ⟨?_, ?_⟩
      · rfl
      · rfl
    · omega
  | succ k ih =>
    intro t I J ht hV hS h hs hdy
    have hm := hV.1
    have ht2 : t < 30 := by omega
    have hs20 : s < 20 := by omega
    have hmn : J 172 t = nI (vn I t) := (h.dr hV ht2).2.1
    have hn8 := hV.2.1 t ht2
    by_cases hb : nI t = bf
    · have e : fdR s pn bf (k + 1) t I = fdR s pn bf k (t + 1) I := if_pos hb
      rw [e]
      obtain ⟨J2, g1, g2, g3⟩ := ih (t + 1) I J (by omega) hV hS h hs hdy
      refine ⟨J2, fun lg d d4 hd => ?_, g2, g3⟩
      refine ms_iload_n dX11_find_5 rfl ?_
      refine ms_bipush (v := nI 30) dX11_find_6 (by decide) ?_
      refine n_icmp_ge (tgt := 76) dX11_find_8 (by decide) (by omega) (by omega) (fun c8 => ?_) (fun c8 => ?_)
      · omega
      · refine ms_iload_n dX11_find_11 rfl ?_
        refine ms_iload_n dX11_find_12 rfl ?_
        refine ms_icmp_eq (tgt := 70) dX11_find_13 (by decide) (fun c13 => ?_) (fun c13 => ?_)
        · refine n_iinc dX11_find_70 rfl ?_
          refine ms_goto (tgt := 5) dX11_find_73 (by decide) ?_
          exact g1 _ _ d4 hd
        · exact absurd hb c13
    · by_cases hn : vn I t < 8
      · obtain ⟨J1, f1, f2⟩ := kr_faultless (S := S) h hV hS ht2
        have hVr : Vw (rdV I t pn) := Vw_rd hV
        have hC1 : Cr (rdV I t pn) J1 := Cr_smC hm (Cr_smR hm h f2) smC_rdV
        have hmn1 : J1 172 t = nI (vn I t) := (f2 _ _ (by decide)).trans hmn
        have hon := fun lg d => kr_on (S := S) (I := J1) (lg := lg) (d := d) (t := t) (n := vn I t) (s := s) (a := vn I t) ht2 hs20 hmn1 hn (Nat.le_refl _)
        have hC2 : Cr (ftP2 I s t pn) (onR J1 s t (vn I t) (vn I t)) := Cr_put (by rw [vm_rd]; exact hm) hC1 ht2 hn (Nat.le_refl _) (by rw [vm_rd]; exact hs)
        have hV2 := ftP2_ok (pn := pn) hV hs hdy ht2 hn
        have hS2 : St (ftP2 I s t pn) pn := St_P2 hs20 hm hS
        obtain ⟨J3, f3, f4⟩ := kr_faultless (S := S) hC2 hV2 hS2 ht2
        have hm2 := hV2.1
        have hC3 : Cr (ftB I s t pn) J3 := Cr_smC hm2 (Cr_smR hm2 hC2 f4) smC_rdV
        have hO := ftO_eq (pn := pn) hV hs hdy ht2 hn
        have hfR3 : fR J J3 := fR_tr (fR_sm f2) (fR_tr fR_on (fR_sm f4))
        have e8 : ¬ 8 ≤ vn I t := by omega
        by_cases hg : ftO I s t pn = true
        · have eg : ftG I s t pn = true := by unfold ftG; rw [hg, decide_eq_false e8]; rfl
          have ej : ftJ I s t pn = ftB I s t pn := by unfold ftJ; rw [if_neg e8, if_pos hg]
          have e : fdR s pn bf (k + 1) t I = (ftB I s t pn, true) := by
            rw [← ej]
            exact (if_neg hb).trans (if_pos eg)
          rw [e]
          have hz := of_decide_eq_true (hO.symm.trans hg)
          refine ⟨J3, fun lg d d4 hd => ?_, hC3, hfR3⟩
          refine ms_iload_n dX11_find_5 rfl ?_
          refine ms_bipush (v := nI 30) dX11_find_6 (by decide) ?_
          refine n_icmp_ge (tgt := 76) dX11_find_8 (by decide) (by omega) (by omega) (fun c8 => ?_) (fun c8 => ?_)
          · omega
          · refine ms_iload_n dX11_find_11 rfl ?_
            refine ms_iload_n dX11_find_12 rfl ?_
            refine ms_icmp_eq (tgt := 70) dX11_find_13 (by decide) (fun c13 => ?_) (fun c13 => ?_)
            · exact absurd c13 hb
            · refine ms_aload_n dX11_find_16 rfl ?_
              refine q_getr dX11_find_17 fX11_95 kd_11_36 (by first | decide | exact lt_sc (by omega) | exact lt_dy (by omega) | exact lt_rw (by omega) | exact lt_wa (by omega) | exact lt_le (by omega)) (by first | rfl | rw [sh_sc (by omega)] | rw [sh_dy (by omega)]) (by first | rfl | exact rf_wa (by omega) | exact rf_le (by omega) | exact rf_rw (by omega)) ?_
              refine ms_iload_n dX11_find_20 rfl ?_
              refine q_iald dX11_find_21 (by first | decide | exact lt_sc (by omega) | exact lt_dy (by omega) | exact lt_rw (by omega) | exact lt_wa (by omega) | exact lt_le (by omega)) (by first | rfl | exact sh_rw (by omega) | exact sh_wa (by omega) | exact sh_le (by omega)) (by omega) (by decide) hmn ?_
              refine ms_bipush (v := nI 8) dX11_find_22 (by decide) ?_
              refine n_icmp_ge (tgt := 70) dX11_find_24 (by decide) (by omega) (by omega) (fun c24 => ?_) (fun c24 => ?_)
              · omega
              · refine ms_aload_n dX11_find_27 rfl ?_
                refine ms_iload_n dX11_find_28 rfl ?_
                refine qRV1 dX11_find_29 kX11_205 (by show _ < 178; first | decide | exact lt_sc (by omega) | exact lt_dy (by omega)) (by show (sh0 _).1 = _; first | rfl | rw [sh_sc (by omega)] | rw [sh_dy (by omega)]) (d := d - 1) (by show d - 1 + 1 ≤ d; omega) rfl (Nat.le_of_ble_eq_true rfl) (Nat.le_of_ble_eq_true rfl) (f1 _ _ (by omega)) rfl ?_
                refine ms_iconst (v := nI 1) dX11_find_32 (by decide) ?_
                refine ms_iload_n dX11_find_33 rfl ?_
                refine ms_ishl dX11_find_34 ?_
                refine ms_ior dX11_find_35 ?_
                refine ms_istore dX11_find_36 (Nat.le_of_ble_eq_true rfl) ?_
                refine ms_aload_n dX11_find_38 rfl ?_
                refine ms_iload_n dX11_find_39 rfl ?_
                refine ms_iload_n dX11_find_40 rfl ?_
                refine ms_aload_n dX11_find_41 rfl ?_
                refine q_getr dX11_find_42 fX11_95 kd_11_36 (by first | decide | exact lt_sc (by omega) | exact lt_dy (by omega) | exact lt_rw (by omega) | exact lt_wa (by omega) | exact lt_le (by omega)) (by first | rfl | rw [sh_sc (by omega)] | rw [sh_dy (by omega)]) (by first | rfl | exact rf_wa (by omega) | exact rf_le (by omega) | exact rf_rw (by omega)) ?_
                refine ms_iload_n dX11_find_45 rfl ?_
                refine q_iald dX11_find_46 (by first | decide | exact lt_sc (by omega) | exact lt_dy (by omega) | exact lt_rw (by omega) | exact lt_wa (by omega) | exact lt_le (by omega)) (by first | rfl | exact sh_rw (by omega) | exact sh_wa (by omega) | exact sh_le (by omega)) (by omega) (by decide) hmn1 ?_
                refine qRV3 dX11_find_47 kX11_195 (by show _ < 178; first | decide | exact lt_sc (by omega) | exact lt_dy (by omega)) (by show (sh0 _).1 = _; first | rfl | rw [sh_sc (by omega)] | rw [sh_dy (by omega)]) (d := d - 1) (by show d - 1 + 1 ≤ d; omega) rfl rfl rfl (Nat.le_of_ble_eq_true rfl) (Nat.le_of_ble_eq_true rfl) (hon _ _) rfl ?_
                refine ms_iload dX11_find_50 rfl ?_
                refine ms_aload_n dX11_find_52 rfl ?_
                refine ms_iload_n dX11_find_53 rfl ?_
                refine qRV1 dX11_find_54 kX11_205 (by show _ < 178; first | decide | exact lt_sc (by omega) | exact lt_dy (by omega)) (by show (sh0 _).1 = _; first | rfl | rw [sh_sc (by omega)] | rw [sh_dy (by omega)]) (d := d - 1) (by show d - 1 + 1 ≤ d; omega) rfl (Nat.le_of_ble_eq_true rfl) (Nat.le_of_ble_eq_true rfl) (f3 _ _ (by omega)) rfl ?_
                refine ms_iconst (v := -1) dX11_find_57 (by decide) ?_
                refine ms_ixor dX11_find_58 ?_
                refine ms_iand dX11_find_59 ?_
                refine ms_if_ne (tgt := 65) dX11_find_60 (by decide) (fun c60 => ?_) (fun c60 => ?_)
                · exact absurd hz c60
                · refine ms_iconst (v := nI 1) dX11_find_63 (by decide) ?_
                  refine ms_zret dX11_find_64 rfl rfl (by first | exact Or.inl (by decide) | exact Or.inr (by decide) | assumption | exact bi_01 _) ⟨?_, ?_⟩
                  · rfl
                  · rfl
        · have hg2 : ftO I s t pn = false := Bool.eq_false_iff.mpr hg
          have eg : ftG I s t pn = false := by unfold ftG; rw [hg2, Bool.and_false]
          have ej : ftJ I s t pn = ftT I s t pn := by unfold ftJ; rw [if_neg e8, hg2]; rfl
          have e : fdR s pn bf (k + 1) t I = fdR s pn bf k (t + 1) (ftT I s t pn) := by
            rw [← ej]
            exact (if_neg hb).trans (if_neg (by rw [eg]; decide))
          have hz := of_decide_eq_false (hO.symm.trans hg2)
          have enB := vn_B (pn := pn) hs20 ht2 hn
          have ewB := vw_B (I := I) (pn := pn) hs20 ht2
          have hVB := ftB_ok (pn := pn) hV hs hdy ht2 hn
          have hvmB : vm (ftB I s t pn) = vm I := congrArg vN (ftB_ne (by decide) (by unfold rwI; omega) (by unfold dyI; omega) (by unfold scI; omega))
          have hDB := hC3.dr hVB ht2
          have hsd : J3 159 s = nI t := by
            have q := (hVB.2.2.1 t (vn I t) ht2 (by rw [enB]; omega)).2
            rw [ewB] at q
            rw [hC3.dy (by rw [hvmB]; exact hs)]
            exact q
          have hof := fun lg d (hd : 2 ≤ d) => kr_off (S := S) (lg := lg) (d := d) (a := vn I t) (s := s) hd hDB (by rw [enB]; omega) ewB (fun j hj q => by
            have := hVB.2.2.2.1 t j (vn I t) ht2 (by rw [enB]; omega) (by rw [enB]; omega) q
            omega) hsd
          have hC4 : Cr (ftT I s t pn) (ofR J3 s t (vn I t) (vn (ftB I s t pn) t)) := Cr_take (by rw [hvmB]; exact hm) hC3 ht2 (by rw [enB]; omega) (by rw [hvmB]; exact hs)
          have hVJ := ftJ_ok (pn := pn) hV hs hdy ht2
          have hSJ := St_J (s := s) (t := t) (pn := pn) hs20 hm hS
          have hof2 := ftJ_off (pn := pn) hdy eg
          have hvJ := vm_J (I := I) (s := s) (t := t) (pn := pn)
          rw [ej] at hVJ hSJ hof2 hvJ
          rw [e]
          obtain ⟨J5, g1, g2, g3⟩ := ih (t + 1) (ftT I s t pn) _ (by omega) hVJ hSJ hC4 (by rw [hvJ]; exact hs) hof2
          refine ⟨J5, fun lg d d4 hd => ?_, g2, fR_tr hfR3 (fR_tr fR_of g3)⟩
          refine ms_iload_n dX11_find_5 rfl ?_
          refine ms_bipush (v := nI 30) dX11_find_6 (by decide) ?_
          refine n_icmp_ge (tgt := 76) dX11_find_8 (by decide) (by omega) (by omega) (fun c8 => ?_) (fun c8 => ?_)
          · omega
          · refine ms_iload_n dX11_find_11 rfl ?_
            refine ms_iload_n dX11_find_12 rfl ?_
            refine ms_icmp_eq (tgt := 70) dX11_find_13 (by decide) (fun c13 => ?_) (fun c13 => ?_)
            · exact absurd c13 hb
            · refine ms_aload_n dX11_find_16 rfl ?_
              refine q_getr dX11_find_17 fX11_95 kd_11_36 (by first | decide | exact lt_sc (by omega) | exact lt_dy (by omega) | exact lt_rw (by omega) | exact lt_wa (by omega) | exact lt_le (by omega)) (by first | rfl | rw [sh_sc (by omega)] | rw [sh_dy (by omega)]) (by first | rfl | exact rf_wa (by omega) | exact rf_le (by omega) | exact rf_rw (by omega)) ?_
              refine ms_iload_n dX11_find_20 rfl ?_
              refine q_iald dX11_find_21 (by first | decide | exact lt_sc (by omega) | exact lt_dy (by omega) | exact lt_rw (by omega) | exact lt_wa (by omega) | exact lt_le (by omega)) (by first | rfl | exact sh_rw (by omega) | exact sh_wa (by omega) | exact sh_le (by omega)) (by omega) (by decide) hmn ?_
              refine ms_bipush (v := nI 8) dX11_find_22 (by decide) ?_
              refine n_icmp_ge (tgt := 70) dX11_find_24 (by decide) (by omega) (by omega) (fun c24 => ?_) (fun c24 => ?_)
              · omega
              · refine ms_aload_n dX11_find_27 rfl ?_
                refine ms_iload_n dX11_find_28 rfl ?_
                refine qRV1 dX11_find_29 kX11_205 (by show _ < 178; first | decide | exact lt_sc (by omega) | exact lt_dy (by omega)) (by show (sh0 _).1 = _; first | rfl | rw [sh_sc (by omega)] | rw [sh_dy (by omega)]) (d := d - 1) (by show d - 1 + 1 ≤ d; omega) rfl (Nat.le_of_ble_eq_true rfl) (Nat.le_of_ble_eq_true rfl) (f1 _ _ (by omega)) rfl ?_
                refine ms_iconst (v := nI 1) dX11_find_32 (by decide) ?_
                refine ms_iload_n dX11_find_33 rfl ?_
                refine ms_ishl dX11_find_34 ?_
                refine ms_ior dX11_find_35 ?_
                refine ms_istore dX11_find_36 (Nat.le_of_ble_eq_true rfl) ?_
                refine ms_aload_n dX11_find_38 rfl ?_
                refine ms_iload_n dX11_find_39 rfl ?_
                refine ms_iload_n dX11_find_40 rfl ?_
                refine ms_aload_n dX11_find_41 rfl ?_
                refine q_getr dX11_find_42 fX11_95 kd_11_36 (by first | decide | exact lt_sc (by omega) | exact lt_dy (by omega) | exact lt_rw (by omega) | exact lt_wa (by omega) | exact lt_le (by omega)) (by first | rfl | rw [sh_sc (by omega)] | rw [sh_dy (by omega)]) (by first | rfl | exact rf_wa (by omega) | exact rf_le (by omega) | exact rf_rw (by omega)) ?_
                refine ms_iload_n dX11_find_45 rfl ?_
                refine q_iald dX11_find_46 (by first | decide | exact lt_sc (by omega) | exact lt_dy (by omega) | exact lt_rw (by omega) | exact lt_wa (by omega) | exact lt_le (by omega)) (by first | rfl | exact sh_rw (by omega) | exact sh_wa (by omega) | exact sh_le (by omega)) (by omega) (by decide) hmn1 ?_
                refine qRV3 dX11_find_47 kX11_195 (by show _ < 178; first | decide | exact lt_sc (by omega) | exact lt_dy (by omega)) (by show (sh0 _).1 = _; first | rfl | rw [sh_sc (by omega)] | rw [sh_dy (by omega)]) (d := d - 1) (by show d - 1 + 1 ≤ d; omega) rfl rfl rfl (Nat.le_of_ble_eq_true rfl) (Nat.le_of_ble_eq_true rfl) (hon _ _) rfl ?_
                refine ms_iload dX11_find_50 rfl ?_
                refine ms_aload_n dX11_find_52 rfl ?_
                refine ms_iload_n dX11_find_53 rfl ?_
                refine qRV1 dX11_find_54 kX11_205 (by show _ < 178; first | decide | exact lt_sc (by omega) | exact lt_dy (by omega)) (by show (sh0 _).1 = _; first | rfl | rw [sh_sc (by omega)] | rw [sh_dy (by omega)]) (d := d - 1) (by show d - 1 + 1 ≤ d; omega) rfl (Nat.le_of_ble_eq_true rfl) (Nat.le_of_ble_eq_true rfl) (f3 _ _ (by omega)) rfl ?_
                refine ms_iconst (v := -1) dX11_find_57 (by decide) ?_
                refine ms_ixor dX11_find_58 ?_
                refine ms_iand dX11_find_59 ?_
                refine ms_if_ne (tgt := 65) dX11_find_60 (by decide) (fun c60 => ?_) (fun c60 => ?_)
                · refine ms_aload_n dX11_find_65 rfl ?_
                  refine ms_iload_n dX11_find_66 rfl ?_
                  refine qRV1 dX11_find_67 kX11_148 (by show _ < 178; first | decide | exact lt_sc (by omega) | exact lt_dy (by omega)) (by show (sh0 _).1 = _; first | rfl | rw [sh_sc (by omega)] | rw [sh_dy (by omega)]) (d := d - 1) (by show d - 1 + 1 ≤ d; omega) rfl (Nat.le_of_ble_eq_true rfl) (Nat.le_of_ble_eq_true rfl) (hof _ _ (by omega)) rfl ?_
                  refine n_iinc dX11_find_70 rfl ?_
                  refine ms_goto (tgt := 5) dX11_find_73 (by decide) ?_
                  exact g1 _ _ _ hd
                · exact absurd c60 hz
      · have eg : ftG I s t pn = false := by unfold ftG; rw [decide_eq_true (by omega)]; rfl
        have ej : ftJ I s t pn = I := by unfold ftJ; rw [if_pos (by omega)]
        have e : fdR s pn bf (k + 1) t I = fdR s pn bf k (t + 1) I := by
          have q : fdR s pn bf (k + 1) t I = fdR s pn bf k (t + 1) (ftJ I s t pn) := (if_neg hb).trans (if_neg (by rw [eg]; decide))
          rw [ej] at q
          exact q
        rw [e]
        obtain ⟨J2, g1, g2, g3⟩ := ih (t + 1) I J (by omega) hV hS h hs hdy
        refine ⟨J2, fun lg d d4 hd => ?_, g2, g3⟩
        refine ms_iload_n dX11_find_5 rfl ?_
        refine ms_bipush (v := nI 30) dX11_find_6 (by decide) ?_
        refine n_icmp_ge (tgt := 76) dX11_find_8 (by decide) (by omega) (by omega) (fun c8 => ?_) (fun c8 => ?_)
        · omega
        · refine ms_iload_n dX11_find_11 rfl ?_
          refine ms_iload_n dX11_find_12 rfl ?_
          refine ms_icmp_eq (tgt := 70) dX11_find_13 (by decide) (fun c13 => ?_) (fun c13 => ?_)
          · exact absurd c13 hb
          · refine ms_aload_n dX11_find_16 rfl ?_
            refine q_getr dX11_find_17 fX11_95 kd_11_36 (by first | decide | exact lt_sc (by omega) | exact lt_dy (by omega) | exact lt_rw (by omega) | exact lt_wa (by omega) | exact lt_le (by omega)) (by first | rfl | rw [sh_sc (by omega)] | rw [sh_dy (by omega)]) (by first | rfl | exact rf_wa (by omega) | exact rf_le (by omega) | exact rf_rw (by omega)) ?_
            refine ms_iload_n dX11_find_20 rfl ?_
            refine q_iald dX11_find_21 (by first | decide | exact lt_sc (by omega) | exact lt_dy (by omega) | exact lt_rw (by omega) | exact lt_wa (by omega) | exact lt_le (by omega)) (by first | rfl | exact sh_rw (by omega) | exact sh_wa (by omega) | exact sh_le (by omega)) (by omega) (by decide) hmn ?_
            refine ms_bipush (v := nI 8) dX11_find_22 (by decide) ?_
            refine n_icmp_ge (tgt := 70) dX11_find_24 (by decide) (by omega) (by omega) (fun c24 => ?_) (fun c24 => ?_)
            · refine n_iinc dX11_find_70 rfl ?_
              refine ms_goto (tgt := 5) dX11_find_73 (by decide) ?_
              exact g1 _ _ d4 hd
            · omega
/-- the whole of it: from the day of now -/
theorem kr_findA {S : m_S} {I J : m_I} {s pn : Nat} {bf : Int32} (hV : Vw I) (hS : St I pn) (h : Cr I J) (hs : s < vm I) (hdy : I (scI s) 15 = -1) (hn : vt I < 30) : ∃ J2, (∀ lg d, 5 ≤ d → m_R S M_X11_find d [.ref 143, .int (nI s), .int bf] (hh J lg) (some (.int (bi (fdR s pn bf (30 - vt I) (vt I) I).2))) (hh J2 lg)) ∧ Cr (fdR s pn bf (30 - vt I) (vt I) I).1 J2 ∧ fR J J2 := by
  obtain ⟨J2, g1, g2, g3⟩ := kr_find (S := S) (bf := bf) (30 - vt I) (vt I) I J (by omega) hV hS h hs hdy
  have hnow : J 143 1 = nI (vt I) := h.now.trans (nI_vN _).symm
  refine ⟨J2, fun lg d hd => ?_, g2, g3⟩
  refine ms_aload_n dX11_find_0 rfl ?_
  refine q_geti dX11_find_1 fX11_192 (by rw [kd_11_1]; decide) (by first | decide | exact lt_sc (by omega) | exact lt_dy (by omega) | exact lt_rw (by omega) | exact lt_wa (by omega) | exact lt_le (by omega)) (by first | rfl | rw [sh_sc (by omega)] | rw [sh_dy (by omega)]) hnow ?_
  refine ms_istore_n dX11_find_4 (Nat.le_of_ble_eq_true rfl) ?_
  exact g1 _ _ _ hd

