-- NAME calls9
/-! calls: fill, mend -/
theorem Iv_ft {c : Nat} {I : m_I} {s t pn : Nat} (h : Iv c I) (hs : s < vm I) (hd : I (scI s) 15 = -1) (hom : I (scI s) 11 = 0) (ht : t < 30) : Iv c (ftJ I s t pn) := by
  have hm := h.1.1
  have hs20 : s < 20 := by omega
  unfold ftJ
  by_cases hn : 8 ≤ vn I t
  · rw [if_pos hn]
    exact h
  · rw [if_neg hn]
    have h1 : Iv c (rdV I t pn) := Iv_rd h (Nat.le_refl _)
    have h2 : Iv c (ftP2 I s t pn) := by
      have e := Iv_puI (c2 := c) (s := s) (t := t) (a := vn I t) h1 (Nat.le_refl _) (by rw [vm_rd]; exact hs) ht (by rw [vn_rd ht]; omega) (by rw [vn_rd ht]; exact Nat.le_refl _) ((rdI_sc hs20).trans hd) ((rdI_sc hs20).trans hom)
      rw [vn_rd ht] at e
      exact e
    have h3 : Iv c (ftB I s t pn) := Iv_rd h2 (Nat.le_refl _)
    split
    · exact h3
    · exact Iv_toI h3 (Nat.le_refl _) ht (by rw [vn_B hs20 ht (by omega)]; omega) (vw_B hs20 ht)
theorem fdR_ne {s pn : Nat} {bf : Int32} {a b : Nat} (h : a ≠ 75 ∧ a ≠ 76 ∧ a ≠ 77 ∧ a ≠ 78 ∧ a ≠ 79) (h1 : ∀ t, t < 30 → a ≠ rwI t) (h2 : ∀ t, t < 30 → ¬ (a = dyI t ∧ b = 6)) (h3 : ¬ (a = scI s ∧ b = 15)) : ∀ (k t : Nat) (I : m_I), t + k = 30 → (fdR s pn bf k t I).1 a b = I a b := by
  intro k
  induction k with
  | zero => exact fun _ _ _ => rfl
  | succ k ih =>
    intro t I ht
    have e : ftJ I s t pn a b = I a b := ftJ_ne h (h1 t (by omega)) (h2 t (by omega)) h3
    unfold fdR
    split
    · exact ih _ _ (by omega)
    · split
      · exact e
      · exact (ih _ _ (by omega)).trans e
theorem Iv_fd {c s pn : Nat} {bf : Int32} : ∀ (k t : Nat) (I : m_I), t + k = 30 → Iv c I → s < vm I → I (scI s) 15 = -1 → I (scI s) 11 = 0 → Iv c (fdR s pn bf k t I).1 := by
  intro k
  induction k with
  | zero => exact fun _ _ _ h _ _ _ => h
  | succ k ih =>
    intro t I ht h hs hd hom
    have hm := h.1.1
    have hJ := Iv_ft (pn := pn) h hs hd hom (show t < 30 by omega)
    unfold fdR
    split
    · exact ih _ _ (by omega) h hs hd hom
    · by_cases e : ftG I s t pn = true
      · rw [if_pos e]
        exact hJ
      · rw [if_neg e]
        exact ih _ _ (by omega) hJ (by rw [vm_J]; exact hs) (ftJ_off hd (Bool.eq_false_iff.mpr e)) ((ftJ_ne (by unfold scI; omega) (by unfold scI rwI; omega) (by unfold scI dyI; omega) (by unfold scI; omega)).trans hom)
theorem ct_eq {I J : m_I} {s : Nat} (h : Cr I J) (hs : s < vm I) (hm : vm I ≤ 20) : ctR J s (vm I) = (loC I s && frC I s (vm I)) := by
  unfold ctR loR loC frC
  rw [h.om (by omega), h.sh (by omega), h.dy hs]
  congr 2
  refine anyB_cong (fun i hi => ?_)
  unfold frR frP seR seC
  rw [h.bh (by omega), h.om (by omega), h.sh (by omega), h.dy hi]
theorem r_fill {S : m_S} {c pn : Nat} (hc : c < 512) : ∀ (k p : Nat) (tr : Int32) (I J : m_I), Iv c I → vpn I = pn → Cr I J → fb_ct (fun j => !bt tr (vo I j)) (vm I) ≤ k → ∃ J2, (∀ lg d x0 d4, 9 ≤ d → x0 ≠ -1 → m_W S (M_X11_fill, d, fun w9 g => w9 = some (.int (nI (filR pn k tr p I).2)) ∧ g = hh J2 lg, fun _ _ => False) 11 [some (.ref 143), some (.int (nI p)), some (.int tr), some (.int x0), d4] [] (hh J lg) 0 0) ∧ Cr (filR pn k tr p I).1 J2 ∧ Iv c (filR pn k tr p I).1 ∧ fQ J J2 ∧ J2 143 0 = J 143 0 ∧ ∀ a b, 143 ≤ a → (filR pn k tr p I).1 a b = I a b := by
  -- the inner walk: the first that can be tried
  have inner : ∀ (I J : m_I) (tr : Int32) (p : Nat) (K : Option Value → m_H → Prop) (lg : Int64) (d : Nat), Iv c I → Cr I J → 9 ≤ d → (∀ d4, m_W S (M_X11_fill, d, K, fun _ _ => False) 77 [some (.ref 143), some (.int (nI p)), some (.int tr), some (.int (if filK I tr < vm I then nI (vo I (filK I tr)) else -1)), d4] [] (hh J lg) 0 0) → ∀ d3 d4, m_W S (M_X11_fill, d, K, fun _ _ => False) 16 [some (.ref 143), some (.int (nI p)), some (.int tr), d3, d4] [] (hh J lg) 0 0 := by
    intro I J tr p K lg d hI hC hd hk d3 d4
    have hm := hI.1.1
    have ho := Iv_o hI
    obtain ⟨f1, f2, f3⟩ := fst1_ok (ftP I (vo I) (vm I) tr) (vm I)
    obtain ⟨F, hF⟩ : ∃ F : Int32, F = if filK I tr < vm I then nI (vo I (filK I tr)) else -1 := ⟨_, rfl⟩
    rw [← hF] at hk
    have hmJ : J 143 3 = nI (vm I) := hC.m.trans (nI_vN _).symm
    have loop : ∀ (q : Nat) (x : Int32), q ≤ vm I → (q ≤ filK I tr → x = F) → m_W S (M_X11_fill, d, K, fun _ _ => False) 26 [some (.ref 143), some (.int (nI p)), some (.int tr), some (.int x), some (.int (nI q - nI 1))] [] (hh J lg) 0 0 := by
      intro q
      induction q with
      | zero =>
        intro x _ hx
        rw [hx (Nat.zero_le _)]
        refine ms_iload dX11_fill_26 rfl ?_
        refine ms_if_lt (tgt := 77) dX11_fill_28 (by decide) (fun c28 => ?_) (fun c28 => absurd c28 (by decide))
        exact hk _
      | succ q ih =>
        intro x hq hx
        rw [show nI (q + 1) - nI 1 = nI q from pk_sub (by omega)]
        obtain ⟨o1, o2⟩ := ho q (by omega)
        have hov := hI.2.2.2.2.1.1 q (by omega)
        have s9 : J 144 q = nI (vo I q) := (hC.st (by omega)).trans o1
        have hn28 := nI_pos (n := q) (by omega)
        have hct := kr_canTry (S := S) (I := J) (lg := lg) (d := d - 1) (by omega) hmJ hm o2
        rw [ct_eq hC hov hm] at hct
        have hno : ftP I (vo I) (vm I) tr q = false → m_W S (M_X11_fill, d, K, fun _ _ => False) 69 [some (.ref 143), some (.int (nI p)), some (.int tr), some (.int x), some (.int (nI q))] [] (hh J lg) 0 0 := by
          intro hp
          refine ms_iload_n dX11_fill_69 rfl ?_
          refine ms_istore_n dX11_fill_70 (Nat.le_of_ble_eq_true rfl) ?_
          refine ms_iinc dX11_fill_71 rfl (pdec q) ?_
          refine ms_goto (tgt := 26) dX11_fill_74 (by decide) ?_
          refine ih x (by omega) (fun z => hx ?_)
          rcases Nat.eq_or_lt_of_le z with z | z
          · have y := f3 (by show filK I tr < vm I; omega)
            rw [show fst1 (ftP I (vo I) (vm I) tr) (vm I) = q from z.symm, hp] at y
            cases y
          · exact z
        refine ms_iload dX11_fill_26 rfl ?_
        refine ms_if_lt (tgt := 77) dX11_fill_28 (by decide) (fun c28 => absurd c28 (hn28)) (fun c28 => ?_)
        refine ms_iload_n dX11_fill_31 rfl ?_
        refine ms_aload_n dX11_fill_32 rfl ?_
        refine q_getr dX11_fill_33 fX11_7 kd_11_4 (by first | decide | exact lt_sc (by omega) | exact lt_dy (by omega) | exact lt_rw (by omega) | exact lt_wa (by omega) | exact lt_le (by omega)) (by first | rfl | rw [sh_sc (by omega)] | rw [sh_dy (by omega)]) (by first | rfl | exact rf_wa (by omega) | exact rf_le (by omega) | exact rf_rw (by omega)) ?_
        refine ms_iload dX11_fill_36 rfl ?_
        refine q_iald dX11_fill_38 (by first | decide | exact lt_sc (by omega) | exact lt_dy (by omega) | exact lt_rw (by omega) | exact lt_wa (by omega) | exact lt_le (by omega)) (by first | rfl | exact sh_rw (by omega) | exact sh_wa (by omega) | exact sh_le (by omega)) (by omega) (by decide) s9 ?_
        refine qRS2 dX11_fill_39 kX11_158 (d := d - 1) (by show d - 1 + 1 ≤ d; omega) rfl rfl (Nat.le_of_ble_eq_true rfl) (Nat.le_of_ble_eq_true rfl) (kr_has (by omega)) rfl ?_
        refine ms_if_ne (tgt := 69) dX11_fill_42 (by decide) (fun c42 => ?_) (fun c42 => ?_)
        · exact hno (by unfold ftP; rw [bi_n0.mp c42]; rfl)
        · refine ms_aload_n dX11_fill_45 rfl ?_
          refine ms_aload_n dX11_fill_46 rfl ?_
          refine q_getr dX11_fill_47 fX11_7 kd_11_4 (by first | decide | exact lt_sc (by omega) | exact lt_dy (by omega) | exact lt_rw (by omega) | exact lt_wa (by omega) | exact lt_le (by omega)) (by first | rfl | rw [sh_sc (by omega)] | rw [sh_dy (by omega)]) (by first | rfl | exact rf_wa (by omega) | exact rf_le (by omega) | exact rf_rw (by omega)) ?_
          refine ms_iload dX11_fill_50 rfl ?_
          refine q_iald dX11_fill_52 (by first | decide | exact lt_sc (by omega) | exact lt_dy (by omega) | exact lt_rw (by omega) | exact lt_wa (by omega) | exact lt_le (by omega)) (by first | rfl | exact sh_rw (by omega) | exact sh_wa (by omega) | exact sh_le (by omega)) (by omega) (by decide) s9 ?_
          refine qRV1 dX11_fill_53 kX11_208 (by show _ < 178; first | decide | exact lt_sc (by omega) | exact lt_dy (by omega)) (by show (sh0 _).1 = _; first | rfl | rw [sh_sc (by omega)] | rw [sh_dy (by omega)]) (d := d - 1) (by show d - 1 + 1 ≤ d; omega) rfl (Nat.le_of_ble_eq_true rfl) (Nat.le_of_ble_eq_true rfl) (hct) rfl ?_
          refine ms_if_eq (tgt := 69) dX11_fill_56 (by decide) (fun c56 => ?_) (fun c56 => ?_)
          · exact hno (by unfold ftP; rw [bi_0.mp c56, Bool.and_false])
          · have hp : ftP I (vo I) (vm I) tr q = true := by unfold ftP; rw [bi_0.mp c42, bi_n0.mp c56]; rfl
            refine ms_aload_n dX11_fill_59 rfl ?_
            refine q_getr dX11_fill_60 fX11_7 kd_11_4 (by first | decide | exact lt_sc (by omega) | exact lt_dy (by omega) | exact lt_rw (by omega) | exact lt_wa (by omega) | exact lt_le (by omega)) (by first | rfl | rw [sh_sc (by omega)] | rw [sh_dy (by omega)]) (by first | rfl | exact rf_wa (by omega) | exact rf_le (by omega) | exact rf_rw (by omega)) ?_
            refine ms_iload dX11_fill_63 rfl ?_
            refine q_iald dX11_fill_65 (by first | decide | exact lt_sc (by omega) | exact lt_dy (by omega) | exact lt_rw (by omega) | exact lt_wa (by omega) | exact lt_le (by omega)) (by first | rfl | exact sh_rw (by omega) | exact sh_wa (by omega) | exact sh_le (by omega)) (by omega) (by decide) s9 ?_
            refine ms_goto (tgt := 70) dX11_fill_66 (by decide) ?_
            refine ms_istore_n dX11_fill_70 (Nat.le_of_ble_eq_true rfl) ?_
            refine ms_iinc dX11_fill_71 rfl (pdec q) ?_
            refine ms_goto (tgt := 26) dX11_fill_74 (by decide) ?_
            refine ih _ (by omega) (fun z => ?_)
            have hz : filK I tr = q := by
              rcases Nat.eq_or_lt_of_le z with z | z
              · exact z.symm
              · have y := f2 q z
                rw [hp] at y
                cases y
            rw [hF, hz, if_pos (by omega)]
    refine ms_iconst (v := -1) dX11_fill_16 (by decide) ?_
    refine ms_istore_n dX11_fill_17 (Nat.le_of_ble_eq_true rfl) ?_
    refine ms_aload_n dX11_fill_18 rfl ?_
    refine q_geti dX11_fill_19 fX11_114 (by rw [kd_11_3]; decide) (by first | decide | exact lt_sc (by omega) | exact lt_dy (by omega) | exact lt_rw (by omega) | exact lt_wa (by omega) | exact lt_le (by omega)) (by first | rfl | rw [sh_sc (by omega)] | rw [sh_dy (by omega)]) hmJ ?_
    refine ms_iconst (v := nI 1) dX11_fill_22 (by decide) ?_
    refine ms_isub dX11_fill_23 ?_
    refine ms_istore dX11_fill_24 (Nat.le_of_ble_eq_true rfl) ?_
    refine loop (vm I) (-1) (Nat.le_refl _) (fun z => ?_)
    rw [hF, if_neg (by omega)]
  have n1 : ∀ n : Nat, n < 20 → nI n ≠ -1 := fun n hn z => by
    have h0 := nI_pos (n := n) (by omega)
    rw [z] at h0
    exact absurd (by decide) h0
  -- none is left
  have over : ∀ (I J : m_I) (tr : Int32) (p : Nat) (lg : Int64) (d : Nat) (x0 : Int32) (d4 : Option Value), Iv c I → Cr I J → 9 ≤ d → x0 ≠ -1 → ¬ filK I tr < vm I → m_W S (M_X11_fill, d, fun w9 g => w9 = some (.int (nI p)) ∧ g = hh J lg, fun _ _ => False) 11 [some (.ref 143), some (.int (nI p)), some (.int tr), some (.int x0), d4] [] (hh J lg) 0 0 := by
    intro I J tr p lg d x0 d4 hI hC hd hx hf
    refine ms_iload_n dX11_fill_11 rfl ?_
    refine ms_iconst (v := -1) dX11_fill_12 (by decide) ?_
    refine ms_icmp_eq (tgt := 108) dX11_fill_13 (by decide) (fun c13 => absurd c13 (fun z => hx z)) (fun c13 => ?_)
    refine inner I J tr p _ lg d hI hC hd (fun d4 => ?_) _ _
    rw [if_neg hf]
    refine ms_iload_n dX11_fill_77 rfl ?_
    refine ms_iconst (v := -1) dX11_fill_78 (by decide) ?_
    refine ms_icmp_eq (tgt := 11) dX11_fill_79 (by decide) (fun c79 => ?_) (fun c79 => absurd c79 (fun z => z rfl))
    refine ms_iload_n dX11_fill_11 rfl ?_
    refine ms_iconst (v := -1) dX11_fill_12 (by decide) ?_
    refine ms_icmp_eq (tgt := 108) dX11_fill_13 (by decide) (fun c13 => ?_) (fun c13 => absurd c13 (fun z => z rfl))
    refine ms_iload_n dX11_fill_108 rfl ?_
    refine ms_iret dX11_fill_109 rfl rfl ⟨?_, ?_⟩
    · rfl
    · rfl
  intro k
  induction k with
  | zero =>
    intro p tr I J hI hpn hC hk
    have hm := hI.1.1
    have hf : ¬ filK I tr < vm I := fun z => by
      obtain ⟨f1, f2, f3⟩ := fst1_ok (ftP I (vo I) (vm I) tr) (vm I)
      have y := f3 z
      have e0 : fb_ct (fun j => !bt tr (vo I j)) (vm I) = 0 := by omega
      have e := fb_ct_zero.mp e0 (filK I tr) z
      unfold ftP at y
      rw [show fst1 (fun k => !bt tr (vo I k) && (loC I (vo I k) && frC I (vo I k) (vm I))) (vm I) = filK I tr from rfl, e] at y
      cases y
    exact ⟨J, fun lg d x0 d4 hd hx => over I J tr p lg d x0 d4 hI hC hd hx hf, hC, hI, fun _ _ _ => rfl, rfl, fun _ _ _ => rfl⟩
  | succ k ih =>
    intro p tr I J hI hpn hC hk
    have hV := hI.1
    have hm := hV.1
    by_cases hf : filK I tr < vm I
    · obtain ⟨f1, f2, f3⟩ := fst1_ok (ftP I (vo I) (vm I) tr) (vm I)
      obtain ⟨s, hs⟩ : ∃ s, s = vo I (filK I tr) := ⟨_, rfl⟩
      have h5 := hI.2.2.2.2.1
      have hsv : s < vm I := by rw [hs]; exact h5.1 _ hf
      have hs20 : s < 20 := by omega
      have hpt := f3 hf
      have hpt2 : (!bt tr s && (loC I s && frC I s (vm I))) = true := by rw [hs]; exact hpt
      rw [Bool.and_eq_true, Bool.and_eq_true] at hpt2
      obtain ⟨l1, l2, l3⟩ := of_decide_eq_true hpt2.2.1
      have hS : St I pn := by rw [← hpn]; exact Iv_St hI (by omega)
      obtain ⟨J1, g1, g2, g3⟩ := kr_findA (S := S) (bf := -1) hV hS hC hsv l3 hI.2.1.2.2
      obtain ⟨I1, hI1⟩ : ∃ I1, I1 = (fdR s pn (-1) (30 - vt I) (vt I) I).1 := ⟨_, rfl⟩
      obtain ⟨q, hq⟩ : ∃ q, q = (fdR s pn (-1) (30 - vt I) (vt I) I).2 := ⟨_, rfl⟩
      have hvt := hI.2.1.2.2
      have hIv1 : Iv c I1 := by rw [hI1]; exact Iv_fd _ _ _ (by omega) hI hsv l3 l1
      have hlo : ∀ a b, a < 75 → ¬ (a = scI s ∧ b = 15) → I1 a b = I a b := fun a b ha hb => by rw [hI1]; exact fdR_lo ha hb _ _ _
      have evm : vm I1 = vm I := congrArg vN (hlo _ _ (by decide) (by unfold scI; omega))
      have evo : ∀ j, vo I1 j = vo I j := fun j => congrArg vN (hlo _ _ (by decide) (by unfold scI; omega))
      have epn : vpn I1 = pn := (congrArg vN (hlo _ _ (by decide) (by unfold scI; omega))).trans hpn
      rw [← hI1] at g2
      rw [← hq] at g1
      obtain ⟨tr2, htr2⟩ : ∃ x, x = tr ||| (nI 1 <<< (nI s &&& 31)) := ⟨_, rfl⟩
      have eF : filR pn (k + 1) tr p I = filR pn k tr2 (if q then p + 1 else p) I1 := by
        have e : filR pn (k + 1) tr p I = filR pn k (tr ||| (nI 1 <<< (nI (vo I (filK I tr)) &&& 31))) (if (filD I tr pn).2 then p + 1 else p) (filD I tr pn).1 := if_pos hf
        rw [e, htr2, hq, hI1, hs]
        rfl
      have hcnt : fb_ct (fun j => !bt tr2 (vo I1 j)) (vm I1) ≤ k := by
        have e1 : fb_ct (fun j => !bt tr2 (vo I1 j)) (vm I1) = fb_ct (fun j => if j = filK I tr then false else !bt tr (vo I j)) (vm I) := by
          rw [evm]
          refine fb_ct_cong (fun j hj => ?_)
          have hj20 : vo I j < 32 := by have := h5.1 j hj; omega
          rw [evo, htr2, b_or, b_one (by omega) hj20]
          by_cases z : j = filK I tr
          · rw [if_pos z, z, ← hs, decide_eq_true rfl, Bool.or_true]
            rfl
          · have z2 : vo I j ≠ s := fun y => z (h5.2 j (filK I tr) hj hf (y.trans hs))
            rw [if_neg z, decide_eq_false z2, Bool.or_false]
        have e2 := fb_ct_upd (fun j => !bt tr (vo I j)) false (i := filK I tr) (n := vm I) hf
        rw [← hs, hpt2.1, if_pos rfl, if_neg (by decide)] at e2
        rw [e1]
        omega
      obtain ⟨J2, k1, k2, k3, k4, k5, k6⟩ := ih (if q then p + 1 else p) tr2 I1 J1 hIv1 epn g2 hcnt
      have hfQ1 : fQ J J1 := fQ_R g3
      rw [eF]
      refine ⟨J2, fun lg d x0 d4 hd hx => ?_, k2, k3, fQ_tr hfQ1 k4, k5.trans (g3 _ _ (Or.inr (Or.inl ⟨rfl, rfl⟩))), fun a b hab => (k6 a b hab).trans ?_⟩
      · refine ms_iload_n dX11_fill_11 rfl ?_
        refine ms_iconst (v := -1) dX11_fill_12 (by decide) ?_
        refine ms_icmp_eq (tgt := 108) dX11_fill_13 (by decide) (fun c13 => absurd c13 (fun z => hx z)) (fun c13 => ?_)
        refine inner I J tr p _ lg d hI hC hd (fun d4 => ?_) _ _
        rw [if_pos hf, ← hs]
        have ng := n1 s hs20
        refine ms_iload_n dX11_fill_77 rfl ?_
        refine ms_iconst (v := -1) dX11_fill_78 (by decide) ?_
        refine ms_icmp_eq (tgt := 11) dX11_fill_79 (by decide) (fun c79 => absurd c79 (fun z => ng z)) (fun c79 => ?_)
        refine ms_iload_n dX11_fill_82 rfl ?_
        refine ms_iconst (v := nI 1) dX11_fill_83 (by decide) ?_
        refine ms_iload_n dX11_fill_84 rfl ?_
        refine ms_ishl dX11_fill_85 ?_
        refine ms_ior dX11_fill_86 ?_
        rw [← htr2]
        refine ms_istore_n dX11_fill_87 (Nat.le_of_ble_eq_true rfl) ?_
        refine ms_iload_n dX11_fill_88 rfl ?_
        refine ms_aload_n dX11_fill_89 rfl ?_
        refine ms_iload_n dX11_fill_90 rfl ?_
        refine ms_iconst (v := -1) dX11_fill_91 (by decide) ?_
        refine qRV2 dX11_fill_92 kX11_211 (by show _ < 178; first | decide | exact lt_sc (by omega) | exact lt_dy (by omega)) (by show (sh0 _).1 = _; first | rfl | rw [sh_sc (by omega)] | rw [sh_dy (by omega)]) (d := d - 1) (by show d - 1 + 1 ≤ d; omega) rfl rfl (Nat.le_of_ble_eq_true rfl) (Nat.le_of_ble_eq_true rfl) (g1 _ _ (by omega)) rfl ?_
        refine ms_if_eq (tgt := 102) dX11_fill_95 (by decide) (fun c95 => ?_) (fun c95 => ?_)
        · have e : q = false := bi_0.mp c95
          rw [e] at k1
          refine ms_iconst (v := nI 0) dX11_fill_102 (by decide) ?_
          refine n_iadd dX11_fill_103 ?_
          refine ms_istore_n dX11_fill_104 (Nat.le_of_ble_eq_true rfl) ?_
          refine ms_goto (tgt := 11) dX11_fill_105 (by decide) ?_
          rw [e]
          exact k1 lg d _ _ hd ng
        · have e : q = true := bi_n0.mp c95
          rw [e] at k1
          refine ms_iconst (v := nI 1) dX11_fill_98 (by decide) ?_
          refine ms_goto (tgt := 103) dX11_fill_99 (by decide) ?_
          refine n_iadd dX11_fill_103 ?_
          refine ms_istore_n dX11_fill_104 (Nat.le_of_ble_eq_true rfl) ?_
          refine ms_goto (tgt := 11) dX11_fill_105 (by decide) ?_
          rw [e]
          exact k1 lg d _ _ hd ng
      · rw [hI1]
        exact fdR_ne (by omega) (fun t ht => by unfold rwI; omega) (fun t ht => by unfold dyI; omega) (by unfold scI; omega) _ _ _ (by omega)
    · have e : filR pn (k + 1) tr p I = (I, p) := if_neg hf
      rw [e]
      exact ⟨J, fun lg d x0 d4 hd hx => over I J tr p lg d x0 d4 hI hC hd hx hf, hC, hI, fun _ _ _ => rfl, rfl, fun _ _ _ => rfl⟩
theorem o_fill {S : m_S} {c : Nat} {I : m_I} (hc : c < 512) (hI : Iv c I) (hC : Cr I I) : Okc S c I M_X10_fill M_X11_fill [.ref 0] [.ref 143] [] := by
  have hV := hI.1
  have hm := hV.1
  have hP := Iv_Pn hI
  have hall : fb_ct (fun j => !bt (nI 0) (vo I j)) (vm I) ≤ vm I := fb_ct_le _ _
  obtain ⟨J0, hJ0⟩ : ∃ J0, J0 = filR (vpn I) (vm I) 0 0 I := ⟨_, rfl⟩
  have key : ∀ J, Cr I J → ∃ J2, (∀ lg d, 9 ≤ d → m_R S M_X11_fill d [.ref 143] (hh J lg) (some (.int (nI J0.2))) (hh J2 lg)) ∧ Cr J0.1 J2 ∧ Iv c J0.1 ∧ fQ J J2 ∧ J2 143 0 = nI 0 ∧ ∀ a b, 143 ≤ a → J0.1 a b = I a b := by
    intro J hJ
    obtain ⟨J', hJ'⟩ : ∃ J', J' = m_up2 J 143 0 (nI 0) := ⟨_, rfl⟩
    have hC' : Cr I J' := by rw [hJ']; exact Cr_thr hm hJ _
    obtain ⟨J2, k1, k2, k3, k4, k5, k6⟩ := r_fill (S := S) hc (vm I) 0 (nI 0) I J' hI rfl hC' hall
    rw [show filR (vpn I) (vm I) (nI 0) 0 I = J0 from hJ0.symm] at k1 k2 k3 k6
    refine ⟨J2, fun lg d hd => ?_, k2, k3, fQ_tr (by rw [hJ']; exact fQ_up (by decide)) k4, k5.trans (by rw [hJ']; exact m_up2_eq), k6⟩
    refine ms_aload_n dX11_fill_0 rfl ?_
    refine ms_iconst (v := nI 0) dX11_fill_1 (by decide) ?_
    refine q_puti dX11_fill_2 fX11_110 pX11_11_0 kd_11_0 (by first | decide | exact lt_sc (by omega) | exact lt_dy (by omega) | exact lt_rw (by omega) | exact lt_wa (by omega) | exact lt_le (by omega)) (by first | rfl | rw [sh_sc (by omega)] | rw [sh_dy (by omega)]) ?_
    rw [← hJ']
    refine ms_iconst (v := nI 0) dX11_fill_5 (by decide) ?_
    refine ms_istore_n dX11_fill_6 (Nat.le_of_ble_eq_true rfl) ?_
    refine ms_iconst (v := nI 0) dX11_fill_7 (by decide) ?_
    refine ms_istore_n dX11_fill_8 (Nat.le_of_ble_eq_true rfl) ?_
    refine ms_iconst (v := nI 0) dX11_fill_9 (by decide) ?_
    refine ms_istore_n dX11_fill_10 (Nat.le_of_ble_eq_true rfl) ?_
    exact k1 lg d _ _ hd (by decide)
  obtain ⟨_, _, _, hIv, _, _, hfr⟩ := key I hC
  refine Okc_ok (r := some (.int (nI J0.2))) (I1 := J0.1) hm hC (fun lg d hd => ?_) hfr (Iv_same hIv (by omega) (fun _ _ _ => rfl)) (fun J hJ => ?_)
  · rw [hJ0]
    exact k_fillA (by omega) hV hP (fun k hk => hI.2.2.2.2.1.1 k hk) hI.2.1.2.2
  · obtain ⟨J2, k1, k2, k3, k4, k5, k6⟩ := key J hJ
    exact ⟨J2, k1, k2, k4, k5⟩

