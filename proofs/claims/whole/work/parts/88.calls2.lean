-- NAME calls2
/-! calls: looks -/
theorem lkG_cong {om om' : Nat → Bool} {le le' : Nat → Nat → Int32} {o : Nat → Nat} {t : Nat} : ∀ k, (∀ j, j < k → om (o j) = om' (o j) ∧ le (o j) t = le' (o j) t) → lkG om le o k t = lkG om' le' o k t := by
  intro k
  induction k with
  | zero => exact fun _ => rfl
  | succ k ih =>
    intro h
    unfold lkG
    rw [(h k (by omega)).1, (h k (by omega)).2, ih (fun j hj => h j (by omega))]
def omC (I : m_I) (s : Nat) : Bool := !decide (I (scI s) 11 = 0)
def waC (I : m_I) (s t : Nat) : Int32 := I (waI s) t
def leC (I : m_I) (s t : Nat) : Int32 := I (leI s) t
theorem lvI_4 {I : m_I} {s t : Nat} (ht : t < 4) : lvI I s 4 4 t = if I (leI s) t = -1 then I 4 t else I (leI s) t := by
  have key : ∀ k, lvI I s k 4 t = if t < k then (if I (leI s) t = -1 then I 4 t else I (leI s) t) else I 4 t := by
    intro k
    induction k with
    | zero => exact (if_neg (Nat.not_lt_zero t)).symm
    | succ k ih =>
      unfold lvI
      by_cases e : t = k
      · subst e
        rw [if_pos (Nat.lt_succ_self t)]
        by_cases z : I (leI s) t = -1
        · rw [if_pos z, if_pos z, ih, if_neg (Nat.lt_irrefl t)]
        · rw [if_neg z, if_neg z, m_up2_eq]
      · have e2 : ∀ A B : Int32, (if t < k + 1 then A else B) = if t < k then A else B := fun A B => by
          by_cases y : t < k
          · rw [if_pos y, if_pos (by omega)]
          · rw [if_neg y, if_neg (by omega)]
        rw [e2]
        split
        · exact ih
        · rw [m_up2_ne (by omega)]
          exact ih
  rw [key, if_pos ht]
/-- the class's looks are the ones told -/
theorem fcJ_lk {I : m_I} {o : Nat → Nat} {t : Nat} (ht : t < 4) : ∀ k, (∀ j, j < k → o j < 20) → fcJ I o k 4 t = lkG (omC I) (leC I) o k t := by
  intro k
  induction k with
  | zero => exact fun _ => if_pos ⟨rfl, ht⟩
  | succ k ih =>
    intro ho
    have h1 := ih (fun j hj => ho j (by omega))
    have hk := ho k (by omega)
    have e11 : fcJ I o k (scI (o k)) 11 = I (scI (o k)) 11 := fcJ_ne (by unfold scI; omega) (Or.inl (by decide))
    have ele : ∀ t, t < 4 → fcJ I o k (leI (o k)) t = I (leI (o k)) t := fun t ht => fcJ_ne (by unfold leI; omega) (Or.inl (by omega))
    have elu : ∀ (x : Int32) t, t < 4 → m_up2 (fcJ I o k) (scI (o k)) 10 x (leI (o k)) t = I (leI (o k)) t := fun x t ht => (m_up2_ne (by omega)).trans (ele t ht)
    have e4 : ∀ x : Int32, m_up2 (fcJ I o k) (scI (o k)) 10 x 4 t = fcJ I o k 4 t := fun x => m_up2_ne (by unfold scI; omega)
    unfold fcJ lkG
    unfold omC
    rw [e11]
    by_cases z : I (scI (o k)) 11 = 0
    · rw [if_pos z, decide_eq_true z, lvI_4 ht, elu _ t ht, e4, h1]
      rfl
    · rw [if_neg z, decide_eq_false z, e4, h1]
      rfl
theorem clB_ck {I : m_I} {o : Nat → Nat} {k : Nat} (ho : ∀ j, j ≤ k → o j < 20) : clB (fcJ I o k) (o k) = ckB (omC I) (waC I) (leC I) o k := by
  have hk := ho k (Nat.le_refl _)
  unfold clB ckB woC
  rw [show fcJ I o k (scI (o k)) 11 = I (scI (o k)) 11 from fcJ_ne (by unfold scI; omega) (Or.inl (by decide))]
  unfold omC
  rw [Bool.not_not]
  congr 1
  refine anyB_cong (fun t ht => ?_)
  unfold woP ckT
  rw [show fcJ I o k (waI (o k)) t = I (waI (o k)) t from fcJ_ne (by unfold waI; omega) (Or.inl (by omega)), fcJ_lk ht k (fun j hj => ho j (by omega))]
  rfl
theorem fcJ_ne3 {I : m_I} {o : Nat → Nat} {a b : Nat} (h : a ≠ 4) (h2 : ¬ (5 ≤ a ∧ a < 65 ∧ b = 10)) : ∀ k, (∀ j, j < k → o j < 20) → fcJ I o k a b = I a b := by
  intro k
  induction k with
  | zero => exact fun _ => if_neg (fun z => h z.1)
  | succ k ih =>
    intro ho
    have hk := ho k (by omega)
    have e : ¬ (a = scI (o k) ∧ b = 10) := by unfold scI; omega
    have h1 := ih (fun j hj => ho j (by omega))
    unfold fcJ
    split
    · exact (lvI_ne h).trans ((m_up2_ne e).trans h1)
    · exact (m_up2_ne e).trans h1
theorem fcJ_10 {I : m_I} {o : Nat → Nat} {i : Nat} : ∀ k, (∀ j, j < k → o j < 20) → (∀ a b, a < k → b < k → o a = o b → a = b) → i < k → fcJ I o k (scI (o i)) 10 = bi (clB (fcJ I o i) (o i)) := by
  intro k
  induction k with
  | zero => exact fun _ _ h => absurd h (Nat.not_lt_zero i)
  | succ k ih =>
    intro ho hx hi
    have hk := ho k (by omega)
    have hki := ho i hi
    have e : fcJ I o (k + 1) (scI (o i)) 10 = m_up2 (fcJ I o k) (scI (o k)) 10 (bi (clB (fcJ I o k) (o k))) (scI (o i)) 10 := by
      conv => lhs; unfold fcJ
      split
      · exact lvI_ne (by unfold scI; omega)
      · rfl
    rw [e]
    by_cases z : i = k
    · rw [z, m_up2_eq]
    · rw [m_up2_ne (fun y => z (hx i k hi (by omega) (by have := y.1; unfold scI at this; omega)))]
      exact ih (fun j hj => ho j (by omega)) (fun a b ha hb => hx a b (by omega) (by omega)) (by omega)
theorem ckB_eq {I J : m_I} {o : Nat → Nat} {k : Nat} (h : Cr I J) (ho : ∀ j, j ≤ k → o j < vm I) (hm : vm I ≤ 20) : ckB (omR J) (waR J) (leR J) o k = ckB (omC I) (waC I) (leC I) o k := by
  have hom : ∀ j, j ≤ k → omR J (o j) = omC I (o j) := fun j hj => by
    have := ho j hj
    unfold omR omC
    rw [h.om (by omega)]
  unfold ckB
  rw [hom k (Nat.le_refl _)]
  congr 1
  refine anyB_cong (fun t ht => ?_)
  have hle : ∀ j, j ≤ k → leR J (o j) t = leC I (o j) t := fun j hj => h.lv (ho j hj) ht
  have hwa : waR J (o k) t = waC I (o k) t := h.wa (ho k (Nat.le_refl _)) ht
  unfold ckT
  rw [hwa, lkG_cong k (fun j hj => ⟨hom j (by omega), hle j (by omega)⟩)]
/-- the class's marks, its scratch: nothing else of it changes -/
theorem Cr_fc {I J : m_I} {o : Nat → Nat} {k : Nat} (hm : vm I ≤ 20) (h : Cr I J) (ho : ∀ j, j < k → o j < 20) : Cr (fcJ I o k) J := Cr_cls hm h (fun c d h1 h2 _ h4 => fcJ_ne3 h2 h4 k ho)
theorem Iv_fc {c c2 : Nat} {I : m_I} {o : Nat → Nat} {k : Nat} (h : Iv c I) (hc : c ≤ c2) (ho : ∀ j, j < k → o j < 20) : Iv c2 (fcJ I o k) := Iv_same h hc (fun a b z => fcJ_ne3 (by unfold usd at z; omega) (by unfold usd at z; omega) k ho)
theorem Iv_lk {c : Nat} {I : m_I} {s t : Nat} {b : Bool} {x : Int32} (hI : Iv c I) (hs : s < vm I) (ht : t < 4) : Iv c (m_up2 I (wl9 b s) t x) := by
  obtain ⟨h1, h2, h3, h4, h5, h6, h7, h8, h9, h10, h11, h12⟩ := hI
  have hm := h1.1
  have hw : wl9 b s = waI s ∨ wl9 b s = leI s := by unfold wl9; cases b; exact Or.inr rfl; exact Or.inl rfl
  have hf : ∀ a d, (a < 5 ∨ 65 ≤ a ∨ (a - 5) % 3 = 0 ∨ (a - 5) / 3 ≠ s) → m_up2 I (wl9 b s) t x a d = I a d := fun a d h => m_up2_ne (by rcases hw with z | z <;> (rw [z]; first | unfold waI | unfold leI) <;> omega)
  have q : ∀ u d, m_up2 I (wl9 b s) t x (scI u) d = I (scI u) d := fun u d => hf _ _ (by unfold scI; omega)
  exact ⟨Vw_cong h1 (hf _ _ (by omega)) (fun t ht => ⟨hf _ _ (by unfold dyI; omega), fun j => hf _ _ (by unfold rwI; omega)⟩) (fun u hu => ⟨q u 0, q u 15⟩), i2_c h2 (hf _ _ (by omega)) (hf _ _ (by omega)) (hf _ _ (by omega)), i3_c h3 (hf _ _ (by omega)) (fun u _ => q u 4), i4_c hm h4 (hf _ _ (by omega)) (hf _ _ (by omega)) (fun u hu => q u 0), i5_c h5 (hf _ _ (by omega)) (fun k => hf _ _ (by omega)), i6_c h6 (fun u hu => ⟨q u 7, q u 3, q u 14⟩), i7_c h7 (hf _ _ (by omega)) (fun u hu hu2 => ⟨q u 7, q u 15, q u 12, q u 11, fun t _ => ⟨hf _ _ (by unfold waI; omega), hf _ _ (by unfold leI; omega)⟩⟩), i8_c h8 (hf _ _ (by omega)) (fun u hu => q u 5), i9_c hm h9 (hf _ _ (by omega)) (fun u hu => ⟨q u 11, q u 15⟩), i10_c h10 (hf _ _ (by omega)) (fun t ht => hf _ _ (by unfold dyI; omega)), i11_c h11 (fun t ht => hf _ _ (by unfold dyI; omega)) (fun k _ => hf _ _ (by omega)), i12_c h12 (Nat.le_refl _) (hf _ _ (by omega)) (hf _ _ (by omega))⟩
theorem o_look {S : m_S} {c : Nat} {I : m_I} (x y : Int32) (b : Bool) (v : Int32) (hI : Iv c I) (hC : Cr I I) : Okc S c I M_X10_look M_X11_look [.ref 0, .int x, .int y, .int (bi b), .int v] [.ref 143, .int x, .int y, .int (bi b), .int v] [xI, xA] := by
  have hm := hI.1.1
  have hM := Iv_Md hI
  have ho := Iv_o hI
  rcases ix_or x (n := vm I) (by omega) with ⟨s, hs, rfl⟩ | hx
  · have hs20 : s < 20 := by omega
    rcases ix_or y (n := 4) (by omega) with ⟨t, ht, rfl⟩ | hy
    · by_cases hv : -1 ≤ v ∧ v ≤ nI 9
      · obtain ⟨o, hoe⟩ : ∃ o, o = vo I := ⟨_, rfl⟩
        have h5 := hI.2.2.2.2.1
        rw [← hoe] at ho
        have hov : ∀ j, j < vm I → o j < vm I := fun j hj => by rw [hoe]; exact h5.1 j hj
        obtain ⟨I2, hI2⟩ : ∃ I2, I2 = m_up2 I (wl9 b s) t v := ⟨_, rfl⟩
        have e1 : vm I2 = vm I := by rw [hI2]; exact congrArg vN (m_up2_ne (by unfold wl9 waI leI; split <;> omega))
        have hIv2 : Iv c I2 := by rw [hI2]; exact Iv_lk hI hs ht
        have hcl : ∀ lg d, 9 ≤ d → m_R S M_X10_look d [.ref 0, .int (nI s), .int (nI t), .int (bi b), .int v] (hh I lg) (some (.int (nI (fcN I2 o (vm I))))) (hh (fcJ I2 o (vm I)) lg) := fun lg d hd => by rw [hI2]; exact k_look b (by omega) hM ho hs ht hv.1 hv.2
        refine Okc_go _ hm hC hcl (fun a d h => (fcJ_ne3 (by omega) (by omega) _ (fun j hj => (ho j hj).2)).trans (by rw [hI2]; exact m_up2_ne (by unfold wl9 waI leI; split <;> omega))) (Iv_fc hIv2 (by omega) (fun j hj => (ho j hj).2)) (fun J J' hJ hC' hgw hne hz => ?_)
        obtain ⟨J3, hJ3⟩ : ∃ J3, J3 = m_up2 J' (if b then 152 else 153) (4 * s + t) v := ⟨_, rfl⟩
        have hC3 : Cr I2 J3 := by
          rw [hI2, hJ3]
          cases b
          · exact Cr_up hm hC' (a := 153) (b := 4 * s + t) (c := leI s) (d := t) (by unfold lvR; omega) (by show (leI ((4 * s + t) / 4), (4 * s + t) % 4) = _; rw [show (4 * s + t) / 4 = s by omega, show (4 * s + t) % 4 = t by omega]) (by unfold leI; omega) (by unfold leI; omega)
          · exact Cr_up hm hC' (a := 152) (b := 4 * s + t) (c := waI s) (d := t) (by unfold lvR; omega) (by show (waI ((4 * s + t) / 4), (4 * s + t) % 4) = _; rw [show (4 * s + t) / 4 = s by omega, show (4 * s + t) % 4 = t by omega]) (by unfold waI; omega) (by unfold waI; omega)
        have hm2 : vm I2 ≤ 20 := by omega
        have hm3 : J3 143 3 = nI (vm I) := by rw [← e1]; exact hC3.m.trans (nI_vN _).symm
        have ho3 : ∀ k, k < vm I → J3 144 k = nI (o k) ∧ o k < 20 := fun k hk => by
          refine ⟨?_, (ho k hk).2⟩
          rw [hC3.st (by omega), hI2, m_up2_ne (by unfold wl9 waI leI; split <;> omega)]
          exact (ho k hk).1
        obtain ⟨J4, hJ4⟩ : ∃ J4, J4 = lkI J3 (omR J3) (leR J3) o (vm I) 0 := ⟨_, rfl⟩
        have hC4 : Cr (fcJ I2 o (vm I)) J4 := Cr_fc hm2 (Cr_ref hm2 hC3 (fun a d z1 z2 _ => by rw [hJ4]; exact lkI_ne (by omega))) (fun j hj => (ho j hj).2)
        have hne4 : ∀ a d, a ≠ 173 → J4 a d = J3 a d := fun a d z => by rw [hJ4]; exact lkI_ne z
        have hne3 : ∀ a d, a ≠ 152 ∧ a ≠ 153 → J3 a d = J' a d := fun a d z => by rw [hJ3]; exact m_up2_ne (by split <;> omega)
        refine ⟨J4, fun lg d hd => ?_, hC4, fun a d z => (hne4 a d (by omega)).trans (hne3 a d (by omega)), (hne4 _ _ (by decide)).trans (hne3 _ _ (by decide))⟩
        have hsc := kr_sc1 (S := S) (J := J) (lg := lg) (d := d - 1) (by omega) (hJ.m.trans hM.1) hm hs
        have hin := kr_in1 (S := S) (h := hh J lg) (d := d - 1) (v := nI t) (a := nI 0) (b := nI 3) ⟨(nI_leI (by omega) (by omega)).mpr (by omega), (nI_leI (by omega) (by omega)).mpr (by omega)⟩
        have hcs := kr_clashing (S := S) (lg := lg) (d := d - 1) hm3 hm ho3
        rw [← hJ4] at hcs
        have eN : fcN I2 o (vm I) = pc (stG (ckB (omR J3) (waR J3) (leR J3) o) o (vm I)) 30 := by
          rw [stG_pc (vm I) (fun j hj => by have := (ho j hj).2; omega) (fun i j hi hj e => h5.2 i j hi hj (by rw [← hoe]; exact e))]
          exact fb_ct_cong (fun k hk => by
            rw [clB_ck (fun j hj => (ho j (by omega)).2)]
            exact (ckB_eq hC3 (fun j hj => by rw [e1]; exact hov j (by omega)) hm2).symm)
        rw [eN]
        cases b
        · refine ms_aload_n dX11_look_0 rfl ?_
          refine ms_iload_n dX11_look_1 rfl ?_
          refine qRV1 dX11_look_2 kX11_131 (by show _ < 178; first | decide | exact lt_sc (by omega) | exact lt_dy (by omega)) (by show (sh0 _).1 = _; first | rfl | rw [sh_sc (by omega)] | rw [sh_dy (by omega)]) (d := d - 1) (by show d - 1 + 1 ≤ d; omega) rfl (Nat.le_of_ble_eq_true rfl) (Nat.le_of_ble_eq_true rfl) (hsc) rfl ?_
          refine ms_if_eq (tgt := 21) dX11_look_5 (by decide) (fun c5 => absurd c5 (by decide)) (fun c5 => ?_)
          refine ms_iload_n dX11_look_8 rfl ?_
          refine ms_iconst (v := nI 0) dX11_look_9 (by decide) ?_
          refine ms_iconst (v := nI 3) dX11_look_10 (by decide) ?_
          refine qRS3 dX11_look_11 kX11_117 (d := d - 1) (by show d - 1 + 1 ≤ d; omega) rfl rfl rfl (Nat.le_of_ble_eq_true rfl) (Nat.le_of_ble_eq_true rfl) (hin) rfl ?_
          refine ms_if_eq (tgt := 21) dX11_look_14 (by decide) (fun c14 => absurd c14 (by decide)) (fun c14 => ?_)
          refine ms_iconst (v := nI 1) dX11_look_17 (by decide) ?_
          refine ms_goto (tgt := 22) dX11_look_18 (by decide) ?_
          refine ms_istore dX11_look_22 (Nat.le_of_ble_eq_true rfl) ?_
          refine ms_aload_n dX11_look_24 rfl ?_
          refine ms_iload dX11_look_25 rfl ?_
          refine ms_if_ne (tgt := 34) dX11_look_27 (by decide) (fun c27 => ?_) (fun c27 => absurd c27 (by decide))
          refine ms_iload dX11_look_34 rfl ?_
          refine ms_iconst (v := -1) dX11_look_36 (by decide) ?_
          refine ms_bipush (v := nI 9) dX11_look_37 (by decide) ?_
          refine qRS3 dX11_look_39 kX11_117 (d := d - 1) (by show d - 1 + 1 ≤ d; omega) rfl rfl rfl (Nat.le_of_ble_eq_true rfl) (Nat.le_of_ble_eq_true rfl) (kr_in1 hv) rfl ?_
          refine ms_if_eq (tgt := 49) dX11_look_42 (by decide) (fun c42 => absurd c42 (by decide)) (fun c42 => ?_)
          refine ms_iconst (v := nI 0) dX11_look_45 (by decide) ?_
          refine ms_goto (tgt := 50) dX11_look_46 (by decide) ?_
          refine qRV1 dX11_look_50 kX11_138 (by show _ < 178; first | decide | exact lt_sc (by omega) | exact lt_dy (by omega)) (by show (sh0 _).1 = _; first | rfl | rw [sh_sc (by omega)] | rw [sh_dy (by omega)]) (d := d - 1) (by show d - 1 + 1 ≤ d; omega) rfl (Nat.le_of_ble_eq_true rfl) (Nat.le_of_ble_eq_true rfl) (hgw _ _) rfl ?_
          refine ms_if_ne (tgt := 58) dX11_look_53 (by decide) (fun c53 => ?_) (fun c53 => absurd c53 (by decide))
          refine ms_iload_n dX11_look_58 rfl ?_
          refine ms_if_eq (tgt := 77) dX11_look_59 (by decide) (fun c59 => ?_) (fun c59 => absurd c59 (by decide))
          refine ms_aload_n dX11_look_77 rfl ?_
          refine q_getr dX11_look_78 fX11_38 kd_11_13 (by first | decide | exact lt_sc (by omega) | exact lt_dy (by omega) | exact lt_rw (by omega) | exact lt_wa (by omega) | exact lt_le (by omega)) (by first | rfl | rw [sh_sc (by omega)] | rw [sh_dy (by omega)]) (by first | rfl | exact rf_wa (by omega) | exact rf_le (by omega) | exact rf_rw (by omega)) ?_
          refine ms_iconst (v := nI 4) dX11_look_81 (by decide) ?_
          refine ms_iload_n dX11_look_82 rfl ?_
          refine n_imul dX11_look_83 ?_
          refine ms_iload_n dX11_look_84 rfl ?_
          refine n_iadd dX11_look_85 ?_
          refine ms_iload dX11_look_86 rfl ?_
          refine q_iast dX11_look_88 (by first | decide | exact lt_sc (by omega) | exact lt_dy (by omega) | exact lt_rw (by omega) | exact lt_wa (by omega) | exact lt_le (by omega)) (by first | rfl | exact sh_rw (by omega) | exact sh_wa (by omega) | exact sh_le (by omega)) (by omega) (by decide) ?_
          rw [show m_up2 J' 153 (4 * s + t) v = J3 by rw [hJ3]; rfl]
          refine ms_aload_n dX11_look_89 rfl ?_
          refine qRV0 dX11_look_90 kX11_154 (by show _ < 178; first | decide | exact lt_sc (by omega) | exact lt_dy (by omega)) (by show (sh0 _).1 = _; first | rfl | rw [sh_sc (by omega)] | rw [sh_dy (by omega)]) (d := d - 1) (by show d - 1 + 1 ≤ d; omega)  (Nat.le_of_ble_eq_true rfl) (Nat.le_of_ble_eq_true rfl) (hcs) rfl ?_
          refine qRS1 dX11_look_93 kX11_151 (d := d - 1) (by show d - 1 + 1 ≤ d; omega) rfl (Nat.le_of_ble_eq_true rfl) (Nat.le_of_ble_eq_true rfl) (kr_size) rfl ?_
          refine ms_iret dX11_look_96 rfl rfl ⟨?_, ?_⟩
          · rfl
          · rfl
        · refine ms_aload_n dX11_look_0 rfl ?_
          refine ms_iload_n dX11_look_1 rfl ?_
          refine qRV1 dX11_look_2 kX11_131 (by show _ < 178; first | decide | exact lt_sc (by omega) | exact lt_dy (by omega)) (by show (sh0 _).1 = _; first | rfl | rw [sh_sc (by omega)] | rw [sh_dy (by omega)]) (d := d - 1) (by show d - 1 + 1 ≤ d; omega) rfl (Nat.le_of_ble_eq_true rfl) (Nat.le_of_ble_eq_true rfl) (hsc) rfl ?_
          refine ms_if_eq (tgt := 21) dX11_look_5 (by decide) (fun c5 => absurd c5 (by decide)) (fun c5 => ?_)
          refine ms_iload_n dX11_look_8 rfl ?_
          refine ms_iconst (v := nI 0) dX11_look_9 (by decide) ?_
          refine ms_iconst (v := nI 3) dX11_look_10 (by decide) ?_
          refine qRS3 dX11_look_11 kX11_117 (d := d - 1) (by show d - 1 + 1 ≤ d; omega) rfl rfl rfl (Nat.le_of_ble_eq_true rfl) (Nat.le_of_ble_eq_true rfl) (hin) rfl ?_
          refine ms_if_eq (tgt := 21) dX11_look_14 (by decide) (fun c14 => absurd c14 (by decide)) (fun c14 => ?_)
          refine ms_iconst (v := nI 1) dX11_look_17 (by decide) ?_
          refine ms_goto (tgt := 22) dX11_look_18 (by decide) ?_
          refine ms_istore dX11_look_22 (Nat.le_of_ble_eq_true rfl) ?_
          refine ms_aload_n dX11_look_24 rfl ?_
          refine ms_iload dX11_look_25 rfl ?_
          refine ms_if_ne (tgt := 34) dX11_look_27 (by decide) (fun c27 => ?_) (fun c27 => absurd c27 (by decide))
          refine ms_iload dX11_look_34 rfl ?_
          refine ms_iconst (v := -1) dX11_look_36 (by decide) ?_
          refine ms_bipush (v := nI 9) dX11_look_37 (by decide) ?_
          refine qRS3 dX11_look_39 kX11_117 (d := d - 1) (by show d - 1 + 1 ≤ d; omega) rfl rfl rfl (Nat.le_of_ble_eq_true rfl) (Nat.le_of_ble_eq_true rfl) (kr_in1 hv) rfl ?_
          refine ms_if_eq (tgt := 49) dX11_look_42 (by decide) (fun c42 => absurd c42 (by decide)) (fun c42 => ?_)
          refine ms_iconst (v := nI 0) dX11_look_45 (by decide) ?_
          refine ms_goto (tgt := 50) dX11_look_46 (by decide) ?_
          refine qRV1 dX11_look_50 kX11_138 (by show _ < 178; first | decide | exact lt_sc (by omega) | exact lt_dy (by omega)) (by show (sh0 _).1 = _; first | rfl | rw [sh_sc (by omega)] | rw [sh_dy (by omega)]) (d := d - 1) (by show d - 1 + 1 ≤ d; omega) rfl (Nat.le_of_ble_eq_true rfl) (Nat.le_of_ble_eq_true rfl) (hgw _ _) rfl ?_
          refine ms_if_ne (tgt := 58) dX11_look_53 (by decide) (fun c53 => ?_) (fun c53 => absurd c53 (by decide))
          refine ms_iload_n dX11_look_58 rfl ?_
          refine ms_if_eq (tgt := 77) dX11_look_59 (by decide) (fun c59 => absurd c59 (by decide)) (fun c59 => ?_)
          refine ms_aload_n dX11_look_62 rfl ?_
          refine q_getr dX11_look_63 fX11_35 kd_11_12 (by first | decide | exact lt_sc (by omega) | exact lt_dy (by omega) | exact lt_rw (by omega) | exact lt_wa (by omega) | exact lt_le (by omega)) (by first | rfl | rw [sh_sc (by omega)] | rw [sh_dy (by omega)]) (by first | rfl | exact rf_wa (by omega) | exact rf_le (by omega) | exact rf_rw (by omega)) ?_
          refine ms_iconst (v := nI 4) dX11_look_66 (by decide) ?_
          refine ms_iload_n dX11_look_67 rfl ?_
          refine n_imul dX11_look_68 ?_
          refine ms_iload_n dX11_look_69 rfl ?_
          refine n_iadd dX11_look_70 ?_
          refine ms_iload dX11_look_71 rfl ?_
          refine q_iast dX11_look_73 (by first | decide | exact lt_sc (by omega) | exact lt_dy (by omega) | exact lt_rw (by omega) | exact lt_wa (by omega) | exact lt_le (by omega)) (by first | rfl | exact sh_rw (by omega) | exact sh_wa (by omega) | exact sh_le (by omega)) (by omega) (by decide) ?_
          refine ms_goto (tgt := 89) dX11_look_74 (by decide) ?_
          rw [show m_up2 J' 152 (4 * s + t) v = J3 by rw [hJ3]; rfl]
          refine ms_aload_n dX11_look_89 rfl ?_
          refine qRV0 dX11_look_90 kX11_154 (by show _ < 178; first | decide | exact lt_sc (by omega) | exact lt_dy (by omega)) (by show (sh0 _).1 = _; first | rfl | rw [sh_sc (by omega)] | rw [sh_dy (by omega)]) (d := d - 1) (by show d - 1 + 1 ≤ d; omega)  (Nat.le_of_ble_eq_true rfl) (Nat.le_of_ble_eq_true rfl) (hcs) rfl ?_
          refine qRS1 dX11_look_93 kX11_151 (d := d - 1) (by show d - 1 + 1 ≤ d; omega) rfl (Nat.le_of_ble_eq_true rfl) (Nat.le_of_ble_eq_true rfl) (kr_size) rfl ?_
          refine ms_iret dX11_look_96 rfl rfl ⟨?_, ?_⟩
          · rfl
          · rfl
      · refine Okc_thr (k := 1) (E := xA) (b := some (.int (nI 0))) hI hC rfl (fun lg d hd => k_lookT3 (by omega) hM hs ht hv) (fun lg d hd => ?_)
        have hsc := kr_sc1 (S := S) (J := I) (lg := lg) (d := d - 1) (by omega) (hC.m.trans hM.1) hm hs
        have hin := kr_in1 (S := S) (h := hh I lg) (d := d - 1) (v := nI t) (a := nI 0) (b := nI 3) ⟨(nI_leI (by omega) (by omega)).mpr (by omega), (nI_leI (by omega) (by omega)).mpr (by omega)⟩
        refine ms_aload_n dX11_look_0 rfl ?_
        refine ms_iload_n dX11_look_1 rfl ?_
        refine qRV1 dX11_look_2 kX11_131 (by show _ < 178; first | decide | exact lt_sc (by omega) | exact lt_dy (by omega)) (by show (sh0 _).1 = _; first | rfl | rw [sh_sc (by omega)] | rw [sh_dy (by omega)]) (d := d - 1) (by show d - 1 + 1 ≤ d; omega) rfl (Nat.le_of_ble_eq_true rfl) (Nat.le_of_ble_eq_true rfl) (hsc) rfl ?_
        refine ms_if_eq (tgt := 21) dX11_look_5 (by decide) (fun c5 => absurd c5 (by decide)) (fun c5 => ?_)
        refine ms_iload_n dX11_look_8 rfl ?_
        refine ms_iconst (v := nI 0) dX11_look_9 (by decide) ?_
        refine ms_iconst (v := nI 3) dX11_look_10 (by decide) ?_
        refine qRS3 dX11_look_11 kX11_117 (d := d - 1) (by show d - 1 + 1 ≤ d; omega) rfl rfl rfl (Nat.le_of_ble_eq_true rfl) (Nat.le_of_ble_eq_true rfl) (hin) rfl ?_
        refine ms_if_eq (tgt := 21) dX11_look_14 (by decide) (fun c14 => absurd c14 (by decide)) (fun c14 => ?_)
        refine ms_iconst (v := nI 1) dX11_look_17 (by decide) ?_
        refine ms_goto (tgt := 22) dX11_look_18 (by decide) ?_
        refine ms_istore dX11_look_22 (Nat.le_of_ble_eq_true rfl) ?_
        refine ms_aload_n dX11_look_24 rfl ?_
        refine ms_iload dX11_look_25 rfl ?_
        refine ms_if_ne (tgt := 34) dX11_look_27 (by decide) (fun c27 => ?_) (fun c27 => absurd c27 (by decide))
        refine ms_iload dX11_look_34 rfl ?_
        refine ms_iconst (v := -1) dX11_look_36 (by decide) ?_
        refine ms_bipush (v := nI 9) dX11_look_37 (by decide) ?_
        refine qRS3 dX11_look_39 kX11_117 (d := d - 1) (by show d - 1 + 1 ≤ d; omega) rfl rfl rfl (Nat.le_of_ble_eq_true rfl) (Nat.le_of_ble_eq_true rfl) (kr_in0 hv) rfl ?_
        refine ms_if_eq (tgt := 49) dX11_look_42 (by decide) (fun c42 => ?_) (fun c42 => absurd c42 (by decide))
        refine ms_iconst (v := nI 2) dX11_look_49 (by decide) ?_
        refine qRV1 dX11_look_50 kX11_138 (by show _ < 178; first | decide | exact lt_sc (by omega) | exact lt_dy (by omega)) (by show (sh0 _).1 = _; first | rfl | rw [sh_sc (by omega)] | rw [sh_dy (by omega)]) (d := d - 1) (by show d - 1 + 1 ≤ d; omega) rfl (Nat.le_of_ble_eq_true rfl) (Nat.le_of_ble_eq_true rfl) (kr_gwk 1 (by decide)) rfl ?_
        refine ms_if_ne (tgt := 58) dX11_look_53 (by decide) (fun c53 => absurd c53 (by decide)) (fun c53 => ?_)
        refine ms_iconst (v := nI 0) dX11_look_56 (by decide) ?_
        refine ms_iret dX11_look_57 rfl rfl ⟨?_, ?_⟩
        · rfl
        · rfl
    · refine Okc_thr (k := 0) (E := xI) (b := some (.int (nI 0))) hI hC rfl (fun lg d hd => k_lookT2 (by omega) hM hs hy) (fun lg d hd => ?_)
      have hsc := kr_sc1 (S := S) (J := I) (lg := lg) (d := d - 1) (by omega) (hC.m.trans hM.1) hm hs
      have hin : m_R S M_X11_in (d - 1) [.int y, .int (nI 0), .int (nI 3)] (hh I lg) (some (.int (bi false))) (hh I lg) := by
        have e := kr_in (S := S) (h := hh I lg) (d := d - 1) (v := y) (a := nI 0) (b := nI 3)
        rw [show inB y (nI 0) (nI 3) = false from inB_0 (n := 4) (by omega) hy] at e
        exact e
      refine ms_aload_n dX11_look_0 rfl ?_
      refine ms_iload_n dX11_look_1 rfl ?_
      refine qRV1 dX11_look_2 kX11_131 (by show _ < 178; first | decide | exact lt_sc (by omega) | exact lt_dy (by omega)) (by show (sh0 _).1 = _; first | rfl | rw [sh_sc (by omega)] | rw [sh_dy (by omega)]) (d := d - 1) (by show d - 1 + 1 ≤ d; omega) rfl (Nat.le_of_ble_eq_true rfl) (Nat.le_of_ble_eq_true rfl) (hsc) rfl ?_
      refine ms_if_eq (tgt := 21) dX11_look_5 (by decide) (fun c5 => absurd c5 (by decide)) (fun c5 => ?_)
      refine ms_iload_n dX11_look_8 rfl ?_
      refine ms_iconst (v := nI 0) dX11_look_9 (by decide) ?_
      refine ms_iconst (v := nI 3) dX11_look_10 (by decide) ?_
      refine qRS3 dX11_look_11 kX11_117 (d := d - 1) (by show d - 1 + 1 ≤ d; omega) rfl rfl rfl (Nat.le_of_ble_eq_true rfl) (Nat.le_of_ble_eq_true rfl) (hin) rfl ?_
      refine ms_if_eq (tgt := 21) dX11_look_14 (by decide) (fun c14 => ?_) (fun c14 => absurd c14 (by decide))
      refine ms_iconst (v := nI 0) dX11_look_21 (by decide) ?_
      refine ms_istore dX11_look_22 (Nat.le_of_ble_eq_true rfl) ?_
      refine ms_aload_n dX11_look_24 rfl ?_
      refine ms_iload dX11_look_25 rfl ?_
      refine ms_if_ne (tgt := 34) dX11_look_27 (by decide) (fun c27 => absurd c27 (by decide)) (fun c27 => ?_)
      refine ms_iconst (v := nI 1) dX11_look_30 (by decide) ?_
      refine ms_goto (tgt := 50) dX11_look_31 (by decide) ?_
      refine qRV1 dX11_look_50 kX11_138 (by show _ < 178; first | decide | exact lt_sc (by omega) | exact lt_dy (by omega)) (by show (sh0 _).1 = _; first | rfl | rw [sh_sc (by omega)] | rw [sh_dy (by omega)]) (d := d - 1) (by show d - 1 + 1 ≤ d; omega) rfl (Nat.le_of_ble_eq_true rfl) (Nat.le_of_ble_eq_true rfl) (kr_gwk 0 (by decide)) rfl ?_
      refine ms_if_ne (tgt := 58) dX11_look_53 (by decide) (fun c53 => absurd c53 (by decide)) (fun c53 => ?_)
      refine ms_iconst (v := nI 0) dX11_look_56 (by decide) ?_
      refine ms_iret dX11_look_57 rfl rfl ⟨?_, ?_⟩
      · rfl
      · rfl
  · refine Okc_thr (k := 0) (E := xI) (b := some (.int (nI 0))) hI hC rfl (fun lg d hd => k_lookT1 (by omega) hM hx) (fun lg d hd => ?_)
    have hsc := kr_sc0 (S := S) (J := I) (lg := lg) (d := d - 1) (by omega) (hC.m.trans hM.1) hm hx
    refine ms_aload_n dX11_look_0 rfl ?_
    refine ms_iload_n dX11_look_1 rfl ?_
    refine qRV1 dX11_look_2 kX11_131 (by show _ < 178; first | decide | exact lt_sc (by omega) | exact lt_dy (by omega)) (by show (sh0 _).1 = _; first | rfl | rw [sh_sc (by omega)] | rw [sh_dy (by omega)]) (d := d - 1) (by show d - 1 + 1 ≤ d; omega) rfl (Nat.le_of_ble_eq_true rfl) (Nat.le_of_ble_eq_true rfl) (hsc) rfl ?_
    refine ms_if_eq (tgt := 21) dX11_look_5 (by decide) (fun c5 => ?_) (fun c5 => absurd c5 (by decide))
    refine ms_iconst (v := nI 0) dX11_look_21 (by decide) ?_
    refine ms_istore dX11_look_22 (Nat.le_of_ble_eq_true rfl) ?_
    refine ms_aload_n dX11_look_24 rfl ?_
    refine ms_iload dX11_look_25 rfl ?_
    refine ms_if_ne (tgt := 34) dX11_look_27 (by decide) (fun c27 => absurd c27 (by decide)) (fun c27 => ?_)
    refine ms_iconst (v := nI 1) dX11_look_30 (by decide) ?_
    refine ms_goto (tgt := 50) dX11_look_31 (by decide) ?_
    refine qRV1 dX11_look_50 kX11_138 (by show _ < 178; first | decide | exact lt_sc (by omega) | exact lt_dy (by omega)) (by show (sh0 _).1 = _; first | rfl | rw [sh_sc (by omega)] | rw [sh_dy (by omega)]) (d := d - 1) (by show d - 1 + 1 ≤ d; omega) rfl (Nat.le_of_ble_eq_true rfl) (Nat.le_of_ble_eq_true rfl) (kr_gwk 0 (by decide)) rfl ?_
    refine ms_if_ne (tgt := 58) dX11_look_53 (by decide) (fun c53 => absurd c53 (by decide)) (fun c53 => ?_)
    refine ms_iconst (v := nI 0) dX11_look_56 (by decide) ?_
    refine ms_iret dX11_look_57 rfl rfl ⟨?_, ?_⟩
    · rfl
    · rfl
theorem o_clashes {S : m_S} {c : Nat} {I : m_I} (x : Int32) (hI : Iv c I) (hC : Cr I I) : Okc S c I M_X10_clashes M_X11_clashes [.ref 0, .int x] [.ref 143, .int x] [xI] := by
  have hm := hI.1.1
  have hM := Iv_Md hI
  have ho := Iv_o hI
  rcases ix_or x (n := vm I) (by omega) with ⟨s, hs, rfl⟩ | hx
  · have hs20 : s < 20 := by omega
    have h5 := hI.2.2.2.2.1
    obtain ⟨i, hi, he, hf⟩ := od_ix h5 hs
    obtain ⟨o, hoe⟩ : ∃ o, o = vo I := ⟨_, rfl⟩
    rw [← hoe] at ho he
    have hov : ∀ j, j < vm I → o j < vm I := fun j hj => by rw [hoe]; exact h5.1 j hj
    have hox : ∀ a b, a < vm I → b < vm I → o a = o b → a = b := fun a b ha hb e => h5.2 a b ha hb (by rw [← hoe]; exact e)
    obtain ⟨q, hq⟩ : ∃ q, q = clB (fcJ I o i) (o i) := ⟨_, rfl⟩
    have hc10 : fcJ I o (vm I) (scI s) 10 = bi q := by
      rw [hq, ← he]
      exact fcJ_10 (vm I) (fun j hj => (ho j hj).2) hox hi
    refine Okc_go _ hm hC (fun lg d hd => k_clashes (by omega) hM ho hs hc10) (fun a d h => fcJ_ne3 (by omega) (by omega) _ (fun j hj => (ho j hj).2)) (Iv_fc hI (by omega) (fun j hj => (ho j hj).2)) (fun J J' hJ hC' hgw hne hz => ?_)
    obtain ⟨J4, hJ4⟩ : ∃ J4, J4 = lkI J' (omR J') (leR J') o (vm I) 0 := ⟨_, rfl⟩
    have hne4 : ∀ a d, a ≠ 173 → J4 a d = J' a d := fun a d z => by rw [hJ4]; exact lkI_ne z
    have hC4 : Cr (fcJ I o (vm I)) J4 := Cr_fc hm (Cr_ref hm hC' (fun a d z1 z2 _ => hne4 a d (by omega))) (fun j hj => (ho j hj).2)
    refine ⟨J4, fun lg d hd => ?_, hC4, fun a d z => hne4 a d (by omega), hne4 _ _ (by decide)⟩
    have hsc := kr_sc1 (S := S) (J := J) (lg := lg) (d := d - 1) (by omega) (hJ.m.trans hM.1) hm hs
    have hcs := kr_clashing (S := S) (I := J') (lg := lg) (d := d - 1) (o := o) (hC'.m.trans hM.1) hm (fun k hk => ⟨(hC'.st (by omega)).trans (ho k hk).1, (ho k hk).2⟩)
    rw [← hJ4] at hcs
    have eq : bt (stG (ckB (omR J') (waR J') (leR J') o) o (vm I)) s = q := by
      have e2 : ckB (omR J') (waR J') (leR J') o i = q := by
        rw [hq, clB_ck (fun j hj => (ho j (by omega)).2)]
        exact ckB_eq hC' (fun j hj => hov j (by omega)) hm
      have hb := stG_bt (c := ckB (omR J') (waR J') (leR J') o) (o := o) (i := s) (by omega) (vm I) (fun j hj => by have := (ho j hj).2; omega)
      cases q
      · refine stG_f (by omega) (fun j hj => by have := (ho j hj).2; omega) (fun j hj z z2 => ?_)
        have := hox j i hj hi (z2.trans he.symm)
        subst this
        rw [e2] at z
        cases z
      · exact hb.mpr ⟨i, hi, e2, he⟩
    refine ms_aload_n dX11_clashes_0 rfl ?_
    refine ms_aload_n dX11_clashes_1 rfl ?_
    refine ms_iload_n dX11_clashes_2 rfl ?_
    refine qRV1 dX11_clashes_3 kX11_131 (by show _ < 178; first | decide | exact lt_sc (by omega) | exact lt_dy (by omega)) (by show (sh0 _).1 = _; first | rfl | rw [sh_sc (by omega)] | rw [sh_dy (by omega)]) (d := d - 1) (by show d - 1 + 1 ≤ d; omega) rfl (Nat.le_of_ble_eq_true rfl) (Nat.le_of_ble_eq_true rfl) (hsc) rfl ?_
    refine ms_if_eq (tgt := 13) dX11_clashes_6 (by decide) (fun c6 => absurd c6 (by decide)) (fun c6 => ?_)
    refine ms_iconst (v := nI 0) dX11_clashes_9 (by decide) ?_
    refine ms_goto (tgt := 14) dX11_clashes_10 (by decide) ?_
    refine qRV1 dX11_clashes_14 kX11_138 (by show _ < 178; first | decide | exact lt_sc (by omega) | exact lt_dy (by omega)) (by show (sh0 _).1 = _; first | rfl | rw [sh_sc (by omega)] | rw [sh_dy (by omega)]) (d := d - 1) (by show d - 1 + 1 ≤ d; omega) rfl (Nat.le_of_ble_eq_true rfl) (Nat.le_of_ble_eq_true rfl) (hgw _ _) rfl ?_
    refine ms_if_eq (tgt := 35) dX11_clashes_17 (by decide) (fun c17 => absurd c17 (by decide)) (fun c17 => ?_)
    refine ms_aload_n dX11_clashes_20 rfl ?_
    refine qRV0 dX11_clashes_21 kX11_154 (by show _ < 178; first | decide | exact lt_sc (by omega) | exact lt_dy (by omega)) (by show (sh0 _).1 = _; first | rfl | rw [sh_sc (by omega)] | rw [sh_dy (by omega)]) (d := d - 1) (by show d - 1 + 1 ≤ d; omega)  (Nat.le_of_ble_eq_true rfl) (Nat.le_of_ble_eq_true rfl) (hcs) rfl ?_
    refine ms_iload_n dX11_clashes_24 rfl ?_
    refine qRS2 dX11_clashes_25 kX11_158 (d := d - 1) (by show d - 1 + 1 ≤ d; omega) rfl rfl (Nat.le_of_ble_eq_true rfl) (Nat.le_of_ble_eq_true rfl) (kr_has (by omega)) rfl ?_
    refine ms_if_eq (tgt := 35) dX11_clashes_28 (by decide) (fun c28 => ?_) (fun c28 => ?_)
    · rw [eq] at c28
      refine ms_iconst (v := nI 0) dX11_clashes_35 (by decide) ?_
      refine ms_zret dX11_clashes_36 rfl rfl (by first | exact Or.inl (by decide) | exact Or.inr (by decide) | assumption | exact bi_01 _) ⟨?_, ?_⟩
      · rw [bi_0.mp c28]; rfl
      · rfl
    · rw [eq] at c28
      refine ms_iconst (v := nI 1) dX11_clashes_31 (by decide) ?_
      refine ms_goto (tgt := 36) dX11_clashes_32 (by decide) ?_
      refine ms_zret dX11_clashes_36 rfl rfl (by first | exact Or.inl (by decide) | exact Or.inr (by decide) | assumption | exact bi_01 _) ⟨?_, ?_⟩
      · rw [bi_n0.mp c28]; rfl
      · rfl
  · refine Okc_thr (k := 0) (E := xI) (b := some (.int (nI 0))) hI hC rfl (fun lg d hd => k_clashesT (by omega) hM hx) (fun lg d hd => ?_)
    have hsc := kr_sc0 (S := S) (J := I) (lg := lg) (d := d - 1) (by omega) (hC.m.trans hM.1) hm hx
    refine ms_aload_n dX11_clashes_0 rfl ?_
    refine ms_aload_n dX11_clashes_1 rfl ?_
    refine ms_iload_n dX11_clashes_2 rfl ?_
    refine qRV1 dX11_clashes_3 kX11_131 (by show _ < 178; first | decide | exact lt_sc (by omega) | exact lt_dy (by omega)) (by show (sh0 _).1 = _; first | rfl | rw [sh_sc (by omega)] | rw [sh_dy (by omega)]) (d := d - 1) (by show d - 1 + 1 ≤ d; omega) rfl (Nat.le_of_ble_eq_true rfl) (Nat.le_of_ble_eq_true rfl) (hsc) rfl ?_
    refine ms_if_eq (tgt := 13) dX11_clashes_6 (by decide) (fun c6 => ?_) (fun c6 => absurd c6 (by decide))
    refine ms_iconst (v := nI 1) dX11_clashes_13 (by decide) ?_
    refine qRV1 dX11_clashes_14 kX11_138 (by show _ < 178; first | decide | exact lt_sc (by omega) | exact lt_dy (by omega)) (by show (sh0 _).1 = _; first | rfl | rw [sh_sc (by omega)] | rw [sh_dy (by omega)]) (d := d - 1) (by show d - 1 + 1 ≤ d; omega) rfl (Nat.le_of_ble_eq_true rfl) (Nat.le_of_ble_eq_true rfl) (kr_gwk 0 (by decide)) rfl ?_
    refine ms_if_eq (tgt := 35) dX11_clashes_17 (by decide) (fun c17 => ?_) (fun c17 => absurd c17 (by decide))
    refine ms_iconst (v := nI 0) dX11_clashes_35 (by decide) ?_
    refine ms_zret dX11_clashes_36 rfl rfl (by first | exact Or.inl (by decide) | exact Or.inr (by decide) | assumption | exact bi_01 _) ⟨?_, ?_⟩
    · rfl
    · rfl

