-- NAME calls3
/-! calls: what binds -/
theorem RB_cong {bd bd' : Nat → Int32} {m s g : Nat} (hs : s < m) (h : ∀ k, k < m → bd k = bd' k) : RB bd m s g ↔ RB bd' m s g := by
  refine ⟨fun z C g1 g2 => z C (fun y hy q => g1 y hy (by rw [← h s hs]; exact q)) (fun x y hx hy hc q => g2 x y hx hy hc (by rw [← h x hx]; exact q)), fun z C g1 g2 => z C (fun y hy q => g1 y hy (by rw [h s hs]; exact q)) (fun x y hx hy hc q => g2 x y hx hy hc (by rw [h x hx]; exact q))⟩
theorem rIn_mono {I : m_I} {x : Int32} {y : Nat} (h : bt x y = true) : ∀ i, bt (rIn I x i) y = true := by
  intro i
  induction i with
  | zero => exact h
  | succ i ih =>
    unfold rIn
    split
    · rw [b_or, ih]; rfl
    · exact ih
theorem rIn_mono2 {I : m_I} {x : Int32} {y i : Nat} (h : bt (rIn I x i) y = true) : ∀ j, i ≤ j → bt (rIn I x j) y = true := by
  intro j
  induction j with
  | zero =>
    intro hj
    obtain rfl : i = 0 := by omega
    exact h
  | succ j ih =>
    intro hj
    by_cases e : i = j + 1
    · rw [← e]
      exact h
    · have h2 := ih (by omega)
      unfold rIn
      split
      · rw [b_or, h2]; rfl
      · exact h2
theorem rIn_get {I : m_I} {x : Int32} {m i y : Nat} (hi : i < m) (h : bt x i = true) (h2 : bt (I (scI i) 5) y = true) : bt (rIn I x m) y = true := by
  refine rIn_mono2 (i := i + 1) ?_ m (by omega)
  have e : rIn I x (i + 1) = rIn I x i ||| I (scI i) 5 := if_pos (rIn_mono h i)
  rw [e, b_or, h2, Bool.or_true]
theorem rIn_all {I : m_I} {P : Nat → Prop} {m : Nat} (hP : ∀ i y, i < m → y < 32 → P i → bt (I (scI i) 5) y = true → P y) (hm : m ≤ 32) {x : Int32} (h : ∀ y, y < 32 → bt x y = true → P y) : ∀ i, i ≤ m → ∀ y, y < 32 → bt (rIn I x i) y = true → P y := by
  intro i
  induction i with
  | zero => exact fun _ => h
  | succ i ih =>
    intro hi y hy q
    have h1 := ih (by omega)
    unfold rIn at q
    by_cases z : bt (rIn I x i) i = true
    · rw [if_pos z, b_or, Bool.or_eq_true] at q
      rcases q with q | q
      · exact h1 y hy q
      · exact hP i y (by omega) hy (h1 i (by omega) z) q
    · rw [if_neg z] at q
      exact h1 y hy q
theorem rOut_all {I : m_I} {P : Nat → Prop} {m : Nat} (hP : ∀ i y, i < m → y < 32 → P i → bt (I (scI i) 5) y = true → P y) (hm : m ≤ 32) {x : Int32} (h : ∀ y, y < 32 → bt x y = true → P y) : ∀ k, ∀ y, y < 32 → bt (rOut I m x k) y = true → P y := by
  intro k
  induction k with
  | zero => exact h
  | succ k ih => exact rIn_all hP hm ih m (Nat.le_refl m)
theorem rOut_st {I : m_I} {m : Nat} {x : Int32} {j : Nat} (h : rOut I m x (j + 1) = rOut I m x j) : ∀ i, rOut I m x (j + i) = rOut I m x j := by
  intro i
  induction i with
  | zero => rfl
  | succ i ih =>
    show rIn I (rOut I m x (j + i)) m = _
    rw [ih]
    exact h
theorem rOut_ok {I : m_I} {m b s : Nat} (hm : m ≤ 20) (hb : b < m) (hs : s < m) (h8 : ∀ k, k < 20 → ∀ i, m ≤ i → i < 32 → bt (I (scI k) 5) i = false) : bt (rOut I m (nI 1 <<< (nI b &&& 31)) m) s = true ↔ s = b ∨ RB (fun k => I (scI k) 5) m b s := by
  obtain ⟨r, hr⟩ : ∃ r, r = nI 1 <<< (nI b &&& 31) := ⟨_, rfl⟩
  have hr1 : ∀ y, y < 32 → (bt r y = true ↔ y = b) := fun y hy => by rw [hr, b_one (by omega) hy, decide_eq_true_iff]
  rw [← hr]
  have mono : ∀ k y, bt r y = true → bt (rOut I m r k) y = true := by
    intro k
    induction k with
    | zero => exact fun y h => h
    | succ k ih => exact fun y h => rIn_mono (ih y h) m
  have hlow : ∀ k y, y < 32 → bt (rOut I m r k) y = true → y < m := fun k => rOut_all (P := fun y => y < m) (fun i y hi hy _ q => by
    rcases Nat.lt_or_ge y m with z | z
    · exact z
    · rw [h8 i (by omega) y z hy] at q; cases q) (by omega) (fun y hy q => by rw [(hr1 y hy).mp q]; exact hb) k
  have hle : ∀ k, pc (rOut I m r k) 32 ≤ m := fun k => by
    have e := pc_up (x := rOut I m r k) (a := m) (b := 32) (by omega) (by omega) (fun i h1 h2 => by
      rcases Bool.eq_false_or_eq_true (bt (rOut I m r k) i) with z | z
      · have := hlow k i h2 z
        omega
      · exact z)
    rw [← e]
    exact fb_ct_le _ _
  have grow : ∀ k, (∃ j, j < k ∧ rOut I m r (j + 1) = rOut I m r j) ∨ k + 1 ≤ pc (rOut I m r k) 32 := by
    intro k
    induction k with
    | zero =>
      refine Or.inr (fb_ct_pos.mpr ⟨b, by omega, ?_⟩)
      exact (hr1 b (by omega)).mpr rfl
    | succ k ih =>
      rcases ih with ⟨j, h1, h2⟩ | ih
      · exact Or.inl ⟨j, by omega, h2⟩
      · by_cases z : rOut I m r (k + 1) = rOut I m r k
        · exact Or.inl ⟨k, by omega, z⟩
        · have := pc_lt (x := rOut I m r k) (y := rOut I m r (k + 1)) (fun i _ h => rIn_mono h m) (fun e => z e.symm)
          exact Or.inr (by omega)
  have hst : rIn I (rOut I m r m) m = rOut I m r m := by
    rcases grow m with ⟨j, h1, h2⟩ | h
    · have e1 := rOut_st h2 (m - j)
      have e2 := rOut_st h2 (m + 1 - j)
      rw [show j + (m - j) = m by omega] at e1
      rw [show j + (m + 1 - j) = m + 1 by omega] at e2
      exact e2.trans e1.symm
    · have := hle m
      omega
  have closed : ∀ x y, x < m → y < 32 → bt (rOut I m r m) x = true → bt (I (scI x) 5) y = true → bt (rOut I m r m) y = true := fun x y hx _ h1 h2 => by
    rw [← hst]
    exact rIn_get hx h1 h2
  have hb1 : bt (rOut I m r m) b = true := mono m b ((hr1 b (by omega)).mpr rfl)
  refine ⟨fun h => ?_, fun h => ?_⟩
  · exact rOut_all (P := fun y => y = b ∨ RB (fun k => I (scI k) 5) m b y) (fun i y hi hy hp q => by
      refine Or.inr (fun C g1 g2 => ?_)
      rcases hp with hp | hp
      · subst hp
        exact g1 y hy q
      · exact g2 i y hi hy (hp C g1 g2) q) (by omega) (fun y hy q => Or.inl ((hr1 y hy).mp q)) m s (by omega) h
  · rcases h with h | h
    · rw [h]
      exact hb1
    · exact h (fun y => bt (rOut I m r m) y = true) (fun y hy q => closed b y hb hy hb1 q) closed
theorem o_bind {S : m_S} {c : Nat} {I : m_I} (x y : Int32) (hI : Iv c I) (hC : Cr I I) : Okc S c I M_X10_bind M_X11_bind [.ref 0, .int x, .int y] [.ref 143, .int x, .int y] [xI, xS] := by
  have hm := hI.1.1
  have hM := Iv_Md hI
  rcases ix_or x (n := vm I) (by omega) with ⟨s, hs, rfl⟩ | hx
  · have hs20 : s < 20 := by omega
    rcases ix_or y (n := vm I) (by omega) with ⟨b, hb, rfl⟩ | hy
    · obtain ⟨h1, h2, h3, h4, h5, h6, h7, h8, h9, h10, h11, h12⟩ := id hI
      have hro := rOut_ok (I := I) hm hb hs h8
      -- whether it is bound, by the reference
      have hbd : ∀ (J : m_I), Cr I J → ∀ (q : Bool), (q = true ↔ RB (fun k => I (scI k) 5) (vm I) b s) → ∀ lg d, 2 ≤ d → m_R S M_X11_isBound d [.ref 143, .int (nI b), .int (nI s)] (hh J lg) (some (.int (bi q))) (hh J lg) := fun J hJ q hq lg d hd => kr_isBound hd (hJ.m.trans hM.1) hm (by omega) hs20 (hq.trans (RB_cong hb (fun k hk => (hJ.bh (by omega)).symm)))
      rcases Bool.eq_false_or_eq_true (bt (rOut I (vm I) (nI 1 <<< (nI b &&& 31)) (vm I)) s) with hr | hr
      · refine Okc_thr (k := 1) (E := xS) (b := some (.int (nI 0))) hI hC rfl (fun lg d hd => k_bindT3 (by omega) hM hs hb hr) (fun lg d hd => ?_)
        have hsc := kr_sc1 (S := S) (J := I) (lg := lg) (d := d - 1) (by omega) (hC.m.trans hM.1) hm hs
        have hsb := kr_sc1 (S := S) (J := I) (lg := lg) (d := d - 1) (by omega) (hC.m.trans hM.1) hm hb
        by_cases z : s = b
        · refine ms_aload_n dX11_bind_0 rfl ?_
          refine ms_iload_n dX11_bind_1 rfl ?_
          refine qRV1 dX11_bind_2 kX11_131 (by show _ < 178; first | decide | exact lt_sc (by omega) | exact lt_dy (by omega)) (by show (sh0 _).1 = _; first | rfl | rw [sh_sc (by omega)] | rw [sh_dy (by omega)]) (d := d - 1) (by show d - 1 + 1 ≤ d; omega) rfl (Nat.le_of_ble_eq_true rfl) (Nat.le_of_ble_eq_true rfl) (hsc) rfl ?_
          refine ms_if_eq (tgt := 20) dX11_bind_5 (by decide) (fun c5 => absurd c5 (by decide)) (fun c5 => ?_)
          refine ms_aload_n dX11_bind_8 rfl ?_
          refine ms_iload_n dX11_bind_9 rfl ?_
          refine qRV1 dX11_bind_10 kX11_131 (by show _ < 178; first | decide | exact lt_sc (by omega) | exact lt_dy (by omega)) (by show (sh0 _).1 = _; first | rfl | rw [sh_sc (by omega)] | rw [sh_dy (by omega)]) (d := d - 1) (by show d - 1 + 1 ≤ d; omega) rfl (Nat.le_of_ble_eq_true rfl) (Nat.le_of_ble_eq_true rfl) (hsb) rfl ?_
          refine ms_if_eq (tgt := 20) dX11_bind_13 (by decide) (fun c13 => absurd c13 (by decide)) (fun c13 => ?_)
          refine ms_iconst (v := nI 1) dX11_bind_16 (by decide) ?_
          refine ms_goto (tgt := 21) dX11_bind_17 (by decide) ?_
          refine ms_istore_n dX11_bind_21 (Nat.le_of_ble_eq_true rfl) ?_
          refine ms_aload_n dX11_bind_22 rfl ?_
          refine ms_iload_n dX11_bind_23 rfl ?_
          refine ms_if_ne (tgt := 31) dX11_bind_24 (by decide) (fun c24 => ?_) (fun c24 => absurd c24 (by decide))
          refine ms_iload_n dX11_bind_31 rfl ?_
          refine ms_iload_n dX11_bind_32 rfl ?_
          refine n_icmp_eq (tgt := 45) dX11_bind_33 (by decide) (by omega) (by omega) (fun c33 => ?_) (fun c33 => absurd c33 (fun q => q z))
          refine ms_iconst (v := nI 2) dX11_bind_45 (by decide) ?_
          refine ms_goto (tgt := 50) dX11_bind_46 (by decide) ?_
          refine qRV1 dX11_bind_50 kX11_138 (by show _ < 178; first | decide | exact lt_sc (by omega) | exact lt_dy (by omega)) (by show (sh0 _).1 = _; first | rfl | rw [sh_sc (by omega)] | rw [sh_dy (by omega)]) (d := d - 1) (by show d - 1 + 1 ≤ d; omega) rfl (Nat.le_of_ble_eq_true rfl) (Nat.le_of_ble_eq_true rfl) (kr_gwk 1 (by decide)) rfl ?_
          refine ms_if_ne (tgt := 58) dX11_bind_53 (by decide) (fun c53 => absurd c53 (by decide)) (fun c53 => ?_)
          refine ms_iconst (v := nI 0) dX11_bind_56 (by decide) ?_
          refine ms_iret dX11_bind_57 rfl rfl ⟨?_, ?_⟩
          · rfl
          · rfl
        · have hq : RB (fun k => I (scI k) 5) (vm I) b s := (hro.mp hr).resolve_left z
          refine ms_aload_n dX11_bind_0 rfl ?_
          refine ms_iload_n dX11_bind_1 rfl ?_
          refine qRV1 dX11_bind_2 kX11_131 (by show _ < 178; first | decide | exact lt_sc (by omega) | exact lt_dy (by omega)) (by show (sh0 _).1 = _; first | rfl | rw [sh_sc (by omega)] | rw [sh_dy (by omega)]) (d := d - 1) (by show d - 1 + 1 ≤ d; omega) rfl (Nat.le_of_ble_eq_true rfl) (Nat.le_of_ble_eq_true rfl) (hsc) rfl ?_
          refine ms_if_eq (tgt := 20) dX11_bind_5 (by decide) (fun c5 => absurd c5 (by decide)) (fun c5 => ?_)
          refine ms_aload_n dX11_bind_8 rfl ?_
          refine ms_iload_n dX11_bind_9 rfl ?_
          refine qRV1 dX11_bind_10 kX11_131 (by show _ < 178; first | decide | exact lt_sc (by omega) | exact lt_dy (by omega)) (by show (sh0 _).1 = _; first | rfl | rw [sh_sc (by omega)] | rw [sh_dy (by omega)]) (d := d - 1) (by show d - 1 + 1 ≤ d; omega) rfl (Nat.le_of_ble_eq_true rfl) (Nat.le_of_ble_eq_true rfl) (hsb) rfl ?_
          refine ms_if_eq (tgt := 20) dX11_bind_13 (by decide) (fun c13 => absurd c13 (by decide)) (fun c13 => ?_)
          refine ms_iconst (v := nI 1) dX11_bind_16 (by decide) ?_
          refine ms_goto (tgt := 21) dX11_bind_17 (by decide) ?_
          refine ms_istore_n dX11_bind_21 (Nat.le_of_ble_eq_true rfl) ?_
          refine ms_aload_n dX11_bind_22 rfl ?_
          refine ms_iload_n dX11_bind_23 rfl ?_
          refine ms_if_ne (tgt := 31) dX11_bind_24 (by decide) (fun c24 => ?_) (fun c24 => absurd c24 (by decide))
          refine ms_iload_n dX11_bind_31 rfl ?_
          refine ms_iload_n dX11_bind_32 rfl ?_
          refine n_icmp_eq (tgt := 45) dX11_bind_33 (by decide) (by omega) (by omega) (fun c33 => absurd c33 (fun q => z q)) (fun c33 => ?_)
          refine ms_aload_n dX11_bind_36 rfl ?_
          refine ms_iload_n dX11_bind_37 rfl ?_
          refine ms_iload_n dX11_bind_38 rfl ?_
          refine qRV2 dX11_bind_39 kX11_162 (by show _ < 178; first | decide | exact lt_sc (by omega) | exact lt_dy (by omega)) (by show (sh0 _).1 = _; first | rfl | rw [sh_sc (by omega)] | rw [sh_dy (by omega)]) (d := d - 1) (by show d - 1 + 1 ≤ d; omega) rfl rfl (Nat.le_of_ble_eq_true rfl) (Nat.le_of_ble_eq_true rfl) (hbd I hC true ⟨fun _ => hq, fun _ => rfl⟩ lg (d - 1) (by omega)) rfl ?_
          refine ms_if_eq (tgt := 49) dX11_bind_42 (by decide) (fun c42 => absurd c42 (by decide)) (fun c42 => ?_)
          refine ms_iconst (v := nI 2) dX11_bind_45 (by decide) ?_
          refine ms_goto (tgt := 50) dX11_bind_46 (by decide) ?_
          refine qRV1 dX11_bind_50 kX11_138 (by show _ < 178; first | decide | exact lt_sc (by omega) | exact lt_dy (by omega)) (by show (sh0 _).1 = _; first | rfl | rw [sh_sc (by omega)] | rw [sh_dy (by omega)]) (d := d - 1) (by show d - 1 + 1 ≤ d; omega) rfl (Nat.le_of_ble_eq_true rfl) (Nat.le_of_ble_eq_true rfl) (kr_gwk 1 (by decide)) rfl ?_
          refine ms_if_ne (tgt := 58) dX11_bind_53 (by decide) (fun c53 => absurd c53 (by decide)) (fun c53 => ?_)
          refine ms_iconst (v := nI 0) dX11_bind_56 (by decide) ?_
          refine ms_iret dX11_bind_57 rfl rfl ⟨?_, ?_⟩
          · rfl
          · rfl
      · obtain ⟨v, hv⟩ : ∃ v, v = I (scI s) 5 ||| (nI 1 <<< (nI b &&& 31)) := ⟨_, rfl⟩
        have hbits : ∀ i, vm I ≤ i → i < 32 → bt v i = false := fun i hi hi2 => by
          rw [hv, b_or, h8 s hs20 i hi hi2, b_one (by omega) hi2, decide_eq_false (by omega)]; rfl
        have hf : ∀ a d, ¬ (a = scI s ∧ d = 5) → m_up2 I (scI s) 5 v a d = I a d := fun a d h => m_up2_ne h
        have hI1 : Iv (c + 1) (m_up2 I (scI s) 5 v) := by
          have q : ∀ u d, d ≠ 5 → m_up2 I (scI s) 5 v (scI u) d = I (scI u) d := fun u d hd => m_up2_ne (by omega)
          refine ⟨Vw_cong h1 (hf _ _ (by unfold scI; omega)) (fun t ht => ⟨hf _ _ (by unfold dyI scI; omega), fun j => hf _ _ (by unfold rwI scI; omega)⟩) (fun u hu => ⟨q u 0 (by decide), q u 15 (by decide)⟩), i2_c h2 (hf _ _ (by unfold scI; omega)) (hf _ _ (by unfold scI; omega)) (hf _ _ (by unfold scI; omega)), i3_c h3 (hf _ _ (by unfold scI; omega)) (fun u hu => q u 4 (by decide)), i4_c hm h4 (hf _ _ (by unfold scI; omega)) (hf _ _ (by unfold scI; omega)) (fun u hu => q u 0 (by decide)), i5_c h5 (hf _ _ (by unfold scI; omega)) (fun k => hf _ _ (by unfold scI; omega)), i6_c h6 (fun u hu => ⟨q u 7 (by decide), q u 3 (by decide), q u 14 (by decide)⟩), i7_c h7 (hf _ _ (by unfold scI; omega)) (fun u hu _ => ⟨q u 7 (by decide), q u 15 (by decide), q u 12 (by decide), q u 11 (by decide), fun t _ => ⟨hf _ _ (by unfold waI scI; omega), hf _ _ (by unfold leI scI; omega)⟩⟩), ?_, i9_c hm h9 (hf _ _ (by unfold scI; omega)) (fun u hu => ⟨q u 11 (by decide), q u 15 (by decide)⟩), i10_c h10 (hf _ _ (by unfold scI; omega)) (fun t ht => hf _ _ (by unfold dyI scI; omega)), i11_c h11 (fun t ht => hf _ _ (by unfold dyI scI; omega)) (fun k _ => hf _ _ (by unfold scI; omega)), i12_c h12 (by omega) (hf _ _ (by unfold scI; omega)) (hf _ _ (by unfold scI; omega))⟩
          intro u hu i hi hi2
          have e : vm (m_up2 I (scI s) 5 v) = vm I := congrArg vN (hf _ _ (by unfold scI; omega))
          rw [e] at hi
          by_cases z : u = s
          · rw [z, m_up2_eq]
            exact hbits i hi hi2
          · rw [hf _ _ (by unfold scI; omega)]
            exact h8 u hu i hi hi2
        have hcl : ∀ lg d, 9 ≤ d → m_R S M_X10_bind d [.ref 0, .int (nI s), .int (nI b)] (hh I lg) (some (.int (nI (pc v 20)))) (hh (m_up2 I (scI s) 5 v) lg) := fun lg d hd => by
          rw [hv]
          exact k_bind (by omega) hM hs hb hr (fun i h1 h2 => by rw [← hv]; exact hbits i (by omega) h2)
        refine Okc_go _ hm hC hcl (fun a d h => hf _ _ (by unfold scI; omega)) hI1 (fun J J' hJ hC' hgw hne hz => ?_)
        have hC3 : Cr (m_up2 I (scI s) 5 v) (m_up2 J' 154 s v) := Cr_up hm hC' (a := 154) (b := s) (by unfold lvR; omega) rfl (by unfold scI; omega) (by unfold scI; omega)
        refine ⟨m_up2 J' 154 s v, fun lg d hd => ?_, hC3, fQ_up (by decide), m_up2_ne (by omega)⟩
        have hsc := kr_sc1 (S := S) (J := J) (lg := lg) (d := d - 1) (by omega) (hJ.m.trans hM.1) hm hs
        have hsb := kr_sc1 (S := S) (J := J) (lg := lg) (d := d - 1) (by omega) (hJ.m.trans hM.1) hm hb
        have hz : ¬ s = b := fun z => by rw [hro.mpr (Or.inl z)] at hr; cases hr
        have hq : ¬ RB (fun k => I (scI k) 5) (vm I) b s := fun z => by rw [hro.mpr (Or.inr z)] at hr; cases hr
        have hbh : J' 154 s = I (scI s) 5 := hC'.bh hs20
        have hnb := hbd J hJ false ⟨fun z => (by cases z), fun z => absurd z hq⟩ lg (d - 1) (by omega)
        rw [pc_up (b := 30) (by decide) (by decide) (fun i h1 h2 => hbits i (by omega) h2)]
        refine ms_aload_n dX11_bind_0 rfl ?_
        refine ms_iload_n dX11_bind_1 rfl ?_
        refine qRV1 dX11_bind_2 kX11_131 (by show _ < 178; first | decide | exact lt_sc (by omega) | exact lt_dy (by omega)) (by show (sh0 _).1 = _; first | rfl | rw [sh_sc (by omega)] | rw [sh_dy (by omega)]) (d := d - 1) (by show d - 1 + 1 ≤ d; omega) rfl (Nat.le_of_ble_eq_true rfl) (Nat.le_of_ble_eq_true rfl) (hsc) rfl ?_
        refine ms_if_eq (tgt := 20) dX11_bind_5 (by decide) (fun c5 => absurd c5 (by decide)) (fun c5 => ?_)
        refine ms_aload_n dX11_bind_8 rfl ?_
        refine ms_iload_n dX11_bind_9 rfl ?_
        refine qRV1 dX11_bind_10 kX11_131 (by show _ < 178; first | decide | exact lt_sc (by omega) | exact lt_dy (by omega)) (by show (sh0 _).1 = _; first | rfl | rw [sh_sc (by omega)] | rw [sh_dy (by omega)]) (d := d - 1) (by show d - 1 + 1 ≤ d; omega) rfl (Nat.le_of_ble_eq_true rfl) (Nat.le_of_ble_eq_true rfl) (hsb) rfl ?_
        refine ms_if_eq (tgt := 20) dX11_bind_13 (by decide) (fun c13 => absurd c13 (by decide)) (fun c13 => ?_)
        refine ms_iconst (v := nI 1) dX11_bind_16 (by decide) ?_
        refine ms_goto (tgt := 21) dX11_bind_17 (by decide) ?_
        refine ms_istore_n dX11_bind_21 (Nat.le_of_ble_eq_true rfl) ?_
        refine ms_aload_n dX11_bind_22 rfl ?_
        refine ms_iload_n dX11_bind_23 rfl ?_
        refine ms_if_ne (tgt := 31) dX11_bind_24 (by decide) (fun c24 => ?_) (fun c24 => absurd c24 (by decide))
        refine ms_iload_n dX11_bind_31 rfl ?_
        refine ms_iload_n dX11_bind_32 rfl ?_
        refine n_icmp_eq (tgt := 45) dX11_bind_33 (by decide) (by omega) (by omega) (fun c33 => absurd c33 (fun q => hz q)) (fun c33 => ?_)
        refine ms_aload_n dX11_bind_36 rfl ?_
        refine ms_iload_n dX11_bind_37 rfl ?_
        refine ms_iload_n dX11_bind_38 rfl ?_
        refine qRV2 dX11_bind_39 kX11_162 (by show _ < 178; first | decide | exact lt_sc (by omega) | exact lt_dy (by omega)) (by show (sh0 _).1 = _; first | rfl | rw [sh_sc (by omega)] | rw [sh_dy (by omega)]) (d := d - 1) (by show d - 1 + 1 ≤ d; omega) rfl rfl (Nat.le_of_ble_eq_true rfl) (Nat.le_of_ble_eq_true rfl) (hnb) rfl ?_
        refine ms_if_eq (tgt := 49) dX11_bind_42 (by decide) (fun c42 => ?_) (fun c42 => absurd c42 (by decide))
        refine ms_iconst (v := nI 0) dX11_bind_49 (by decide) ?_
        refine qRV1 dX11_bind_50 kX11_138 (by show _ < 178; first | decide | exact lt_sc (by omega) | exact lt_dy (by omega)) (by show (sh0 _).1 = _; first | rfl | rw [sh_sc (by omega)] | rw [sh_dy (by omega)]) (d := d - 1) (by show d - 1 + 1 ≤ d; omega) rfl (Nat.le_of_ble_eq_true rfl) (Nat.le_of_ble_eq_true rfl) (hgw _ _) rfl ?_
        refine ms_if_ne (tgt := 58) dX11_bind_53 (by decide) (fun c53 => ?_) (fun c53 => absurd c53 (by decide))
        refine ms_aload_n dX11_bind_58 rfl ?_
        refine q_getr dX11_bind_59 fX11_41 kd_11_14 (by first | decide | exact lt_sc (by omega) | exact lt_dy (by omega) | exact lt_rw (by omega) | exact lt_wa (by omega) | exact lt_le (by omega)) (by first | rfl | rw [sh_sc (by omega)] | rw [sh_dy (by omega)]) (by first | rfl | exact rf_wa (by omega) | exact rf_le (by omega) | exact rf_rw (by omega)) ?_
        refine ms_iload_n dX11_bind_62 rfl ?_
        refine ms_dup2 dX11_bind_63 rfl rfl ?_
        refine q_iald dX11_bind_64 (by first | decide | exact lt_sc (by omega) | exact lt_dy (by omega) | exact lt_rw (by omega) | exact lt_wa (by omega) | exact lt_le (by omega)) (by first | rfl | exact sh_rw (by omega) | exact sh_wa (by omega) | exact sh_le (by omega)) (by omega) (by decide) hbh ?_
        refine ms_iconst (v := nI 1) dX11_bind_65 (by decide) ?_
        refine ms_iload_n dX11_bind_66 rfl ?_
        refine ms_ishl dX11_bind_67 ?_
        refine ms_ior dX11_bind_68 ?_
        rw [← hv]
        refine q_iast dX11_bind_69 (by first | decide | exact lt_sc (by omega) | exact lt_dy (by omega) | exact lt_rw (by omega) | exact lt_wa (by omega) | exact lt_le (by omega)) (by first | rfl | exact sh_rw (by omega) | exact sh_wa (by omega) | exact sh_le (by omega)) (by omega) (by decide) ?_
        refine ms_aload_n dX11_bind_70 rfl ?_
        refine q_getr dX11_bind_71 fX11_41 kd_11_14 (by first | decide | exact lt_sc (by omega) | exact lt_dy (by omega) | exact lt_rw (by omega) | exact lt_wa (by omega) | exact lt_le (by omega)) (by first | rfl | rw [sh_sc (by omega)] | rw [sh_dy (by omega)]) (by first | rfl | exact rf_wa (by omega) | exact rf_le (by omega) | exact rf_rw (by omega)) ?_
        refine ms_iload_n dX11_bind_74 rfl ?_
        refine q_iald dX11_bind_75 (by first | decide | exact lt_sc (by omega) | exact lt_dy (by omega) | exact lt_rw (by omega) | exact lt_wa (by omega) | exact lt_le (by omega)) (by first | rfl | exact sh_rw (by omega) | exact sh_wa (by omega) | exact sh_le (by omega)) (by omega) (by decide) (by first | assumption | ((repeat ((with_reducible apply m_up2_tr); · first | omega | (intro z; (try unfold scI at z); (try unfold dyI at z); (try unfold rwI at z); (try unfold waI at z); (try unfold leI at z); omega))); first | assumption | exact m_up2_eq | rfl)) ?_
        refine qRS1 dX11_bind_76 kX11_151 (d := d - 1) (by show d - 1 + 1 ≤ d; omega) rfl (Nat.le_of_ble_eq_true rfl) (Nat.le_of_ble_eq_true rfl) (kr_size) rfl ?_
        refine ms_iret dX11_bind_79 rfl rfl ⟨?_, ?_⟩
        · rfl
        · rfl
    · refine Okc_thr (k := 0) (E := xI) (b := some (.int (nI 0))) hI hC rfl (fun lg d hd => k_bindT2 (by omega) hM hs hy) (fun lg d hd => ?_)
      have hsc := kr_sc1 (S := S) (J := I) (lg := lg) (d := d - 1) (by omega) (hC.m.trans hM.1) hm hs
      have hsb := kr_sc0 (S := S) (J := I) (lg := lg) (d := d - 1) (by omega) (hC.m.trans hM.1) hm hy
      refine ms_aload_n dX11_bind_0 rfl ?_
      refine ms_iload_n dX11_bind_1 rfl ?_
      refine qRV1 dX11_bind_2 kX11_131 (by show _ < 178; first | decide | exact lt_sc (by omega) | exact lt_dy (by omega)) (by show (sh0 _).1 = _; first | rfl | rw [sh_sc (by omega)] | rw [sh_dy (by omega)]) (d := d - 1) (by show d - 1 + 1 ≤ d; omega) rfl (Nat.le_of_ble_eq_true rfl) (Nat.le_of_ble_eq_true rfl) (hsc) rfl ?_
      refine ms_if_eq (tgt := 20) dX11_bind_5 (by decide) (fun c5 => absurd c5 (by decide)) (fun c5 => ?_)
      refine ms_aload_n dX11_bind_8 rfl ?_
      refine ms_iload_n dX11_bind_9 rfl ?_
      refine qRV1 dX11_bind_10 kX11_131 (by show _ < 178; first | decide | exact lt_sc (by omega) | exact lt_dy (by omega)) (by show (sh0 _).1 = _; first | rfl | rw [sh_sc (by omega)] | rw [sh_dy (by omega)]) (d := d - 1) (by show d - 1 + 1 ≤ d; omega) rfl (Nat.le_of_ble_eq_true rfl) (Nat.le_of_ble_eq_true rfl) (hsb) rfl ?_
      refine ms_if_eq (tgt := 20) dX11_bind_13 (by decide) (fun c13 => ?_) (fun c13 => absurd c13 (by decide))
      refine ms_iconst (v := nI 0) dX11_bind_20 (by decide) ?_
      refine ms_istore_n dX11_bind_21 (Nat.le_of_ble_eq_true rfl) ?_
      refine ms_aload_n dX11_bind_22 rfl ?_
      refine ms_iload_n dX11_bind_23 rfl ?_
      refine ms_if_ne (tgt := 31) dX11_bind_24 (by decide) (fun c24 => absurd c24 (by decide)) (fun c24 => ?_)
      refine ms_iconst (v := nI 1) dX11_bind_27 (by decide) ?_
      refine ms_goto (tgt := 50) dX11_bind_28 (by decide) ?_
      refine qRV1 dX11_bind_50 kX11_138 (by show _ < 178; first | decide | exact lt_sc (by omega) | exact lt_dy (by omega)) (by show (sh0 _).1 = _; first | rfl | rw [sh_sc (by omega)] | rw [sh_dy (by omega)]) (d := d - 1) (by show d - 1 + 1 ≤ d; omega) rfl (Nat.le_of_ble_eq_true rfl) (Nat.le_of_ble_eq_true rfl) (kr_gwk 0 (by decide)) rfl ?_
      refine ms_if_ne (tgt := 58) dX11_bind_53 (by decide) (fun c53 => absurd c53 (by decide)) (fun c53 => ?_)
      refine ms_iconst (v := nI 0) dX11_bind_56 (by decide) ?_
      refine ms_iret dX11_bind_57 rfl rfl ⟨?_, ?_⟩
      · rfl
      · rfl
  · refine Okc_thr (k := 0) (E := xI) (b := some (.int (nI 0))) hI hC rfl (fun lg d hd => k_bindT1 (by omega) hM hx) (fun lg d hd => ?_)
    have hsc := kr_sc0 (S := S) (J := I) (lg := lg) (d := d - 1) (by omega) (hC.m.trans hM.1) hm hx
    refine ms_aload_n dX11_bind_0 rfl ?_
    refine ms_iload_n dX11_bind_1 rfl ?_
    refine qRV1 dX11_bind_2 kX11_131 (by show _ < 178; first | decide | exact lt_sc (by omega) | exact lt_dy (by omega)) (by show (sh0 _).1 = _; first | rfl | rw [sh_sc (by omega)] | rw [sh_dy (by omega)]) (d := d - 1) (by show d - 1 + 1 ≤ d; omega) rfl (Nat.le_of_ble_eq_true rfl) (Nat.le_of_ble_eq_true rfl) (hsc) rfl ?_
    refine ms_if_eq (tgt := 20) dX11_bind_5 (by decide) (fun c5 => ?_) (fun c5 => absurd c5 (by decide))
    refine ms_iconst (v := nI 0) dX11_bind_20 (by decide) ?_
    refine ms_istore_n dX11_bind_21 (Nat.le_of_ble_eq_true rfl) ?_
    refine ms_aload_n dX11_bind_22 rfl ?_
    refine ms_iload_n dX11_bind_23 rfl ?_
    refine ms_if_ne (tgt := 31) dX11_bind_24 (by decide) (fun c24 => absurd c24 (by decide)) (fun c24 => ?_)
    refine ms_iconst (v := nI 1) dX11_bind_27 (by decide) ?_
    refine ms_goto (tgt := 50) dX11_bind_28 (by decide) ?_
    refine qRV1 dX11_bind_50 kX11_138 (by show _ < 178; first | decide | exact lt_sc (by omega) | exact lt_dy (by omega)) (by show (sh0 _).1 = _; first | rfl | rw [sh_sc (by omega)] | rw [sh_dy (by omega)]) (d := d - 1) (by show d - 1 + 1 ≤ d; omega) rfl (Nat.le_of_ble_eq_true rfl) (Nat.le_of_ble_eq_true rfl) (kr_gwk 0 (by decide)) rfl ?_
    refine ms_if_ne (tgt := 58) dX11_bind_53 (by decide) (fun c53 => absurd c53 (by decide)) (fun c53 => ?_)
    refine ms_iconst (v := nI 0) dX11_bind_56 (by decide) ?_
    refine ms_iret dX11_bind_57 rfl rfl ⟨?_, ?_⟩
    · rfl
    · rfl

