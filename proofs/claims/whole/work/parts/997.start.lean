-- NAME start
/-! the law's start: script and board -/
/-- the numbers at the start -/
def iv0 (i k : Nat) : Int32 := if 5 ≤ i ∧ i < 65 then (if (i - 5) % 3 = 0 then (if k = 15 then -1 else 0) else (if k < 4 then -1 else 0)) else if i = 71 then (if k < 36 then nI 60 else 0) else if 80 ≤ i ∧ i < 140 then (if i % 2 = 0 then (if k = 0 then nI 480 else if k = 1 then nI 360 else if k = 2 then nI 1080 else 0) else 0) else if i = 167 then (if k < 36 then nI 60 else 0) else if i = 168 then (if k < 30 then nI 480 else 0) else if i = 169 then (if k < 30 then nI 360 else 0) else if i = 170 then (if k < 30 then nI 1080 else 0) else 0
def pI (I : m_I) (a b : Nat) : m_I := fun i k => if a ≤ i ∧ i < b then iv0 i k else I i k
def pR (R : m_Rf) (a b : Nat) : m_Rf := fun i k => if a ≤ i ∧ i < b then rf0 i k else R i k
theorem iv_z {i k : Nat} (h : i < 5 ∨ 65 ≤ i) (h2 : i ≠ 71) (h3 : i < 80 ∨ 140 ≤ i) (h4 : i < 167 ∨ 170 < i) : iv0 i k = 0 := by
  unfold iv0
  rw [if_neg (by omega), if_neg h2, if_neg (by omega), if_neg (by omega), if_neg (by omega), if_neg (by omega), if_neg (by omega)]
theorem iv_sc {i s k : Nat} (hs : s < 20) (e : i = 5 + 3 * s) : iv0 i k = if k = 15 then -1 else 0 := by
  unfold iv0
  rw [if_pos (by omega), if_pos (by omega)]
theorem iv_ar {i s k : Nat} (hs : s < 20) (e : i = 5 + 3 * s + 1 ∨ i = 5 + 3 * s + 2) : iv0 i k = if k < 4 then -1 else 0 := by
  unfold iv0
  rw [if_pos (by omega), if_neg (by omega)]
theorem iv_dy {i s k : Nat} (hs : s < 30) (e : i = 80 + 2 * s) : iv0 i k = if k = 0 then nI 480 else if k = 1 then nI 360 else if k = 2 then nI 1080 else 0 := by
  unfold iv0
  rw [if_neg (by omega), if_neg (by omega), if_pos (by omega), if_pos (by omega)]
theorem iv_rw {i s k : Nat} (hs : s < 30) (e : i = 80 + 2 * s + 1) : iv0 i k = 0 := by
  unfold iv0
  rw [if_neg (by omega), if_neg (by omega), if_pos (by omega), if_neg (by omega)]
theorem rf_A {i k : Nat} (h : i < 5 ∨ 65 ≤ i) (h2 : i < 80 ∨ 140 ≤ i) (h3 : i ≠ 2) (h4 : i ≠ 74) : rf0 i k = rfA i k := by
  unfold rf0
  rw [if_neg (by omega), if_neg (by omega), if_neg h3, if_neg h4]
theorem rf_s {i s k : Nat} (hs : s < 20) (e : i = 5 + 3 * s) : rf0 i k = if k = 8 then some (5 + 3 * s + 1) else if k = 9 then some (5 + 3 * s + 2) else none := by
  unfold rf0
  rw [if_pos (by omega), if_pos (by omega), e]
theorem rf_sa {i s k : Nat} (hs : s < 20) (e : i = 5 + 3 * s + 1 ∨ i = 5 + 3 * s + 2) : rf0 i k = none := by
  unfold rf0
  rw [if_pos (by omega), if_neg (by omega)]
theorem rf_d {i s k : Nat} (hs : s < 30) (e : i = 80 + 2 * s) : rf0 i k = if k = 5 then some (80 + 2 * s + 1) else none := by
  unfold rf0
  rw [if_neg (by omega), if_pos (by omega)]
  by_cases z : k = 5
  · rw [if_pos z, if_pos ⟨by omega, z⟩, e]
  · rw [if_neg z, if_neg (fun w => z w.2)]
theorem rf_da {i s k : Nat} (hs : s < 30) (e : i = 80 + 2 * s + 1) : rf0 i k = none := by
  unfold rf0
  rw [if_neg (by omega), if_pos (by omega), if_neg (by omega)]
theorem rf_2 {k : Nat} : rf0 2 k = if k < 20 then some (5 + 3 * k) else none := by
  unfold rf0
  rw [if_neg (by omega), if_neg (by omega), if_pos rfl]
  rfl
theorem rf_74 {k : Nat} : rf0 74 k = if k < 30 then some (80 + 2 * k) else none := by
  unfold rf0
  rw [if_neg (by omega), if_neg (by omega), if_neg (by omega), if_pos rfl]
  rfl
theorem rf_1 {k : Nat} : rf0 1 k = if k = 0 then some 2 else if k = 1 then some 3 else if k = 2 then some 4 else none := by
  rw [rf_A (by omega) (by omega) (by omega) (by omega)]
  match k with
  | 0 => rfl
  | 1 => rfl
  | 2 => rfl
  | k + 3 => rfl
theorem rf_72 {k : Nat} : rf0 72 k = if k = 0 then some 1 else if k = 1 then some 73 else if k = 2 then some 74 else if k = 3 then some 75 else none := by
  rw [rf_A (by omega) (by omega) (by omega) (by omega)]
  match k with
  | 0 => rfl
  | 1 => rfl
  | 2 => rfl
  | 3 => rfl
  | k + 4 => rfl
theorem rf_75 {k : Nat} : rf0 75 k = if k = 0 then some 1 else if k = 1 then some 65 else if k = 2 then some 69 else if k = 3 then some 73 else if k = 4 then some 76 else if k = 5 then some 77 else if k = 6 then some 78 else if k = 7 then some 79 else none := by
  rw [rf_A (by omega) (by omega) (by omega) (by omega)]
  match k with
  | 0 => rfl
  | 1 => rfl
  | 2 => rfl
  | 3 => rfl
  | 4 => rfl
  | 5 => rfl
  | 6 => rfl
  | 7 => rfl
  | k + 8 => rfl
/-- the script with s scenes made -/
def Rs (R : m_Rf) (s : Nat) : m_Rf := fun i k => if i = 2 then (if k < s then some (5 + 3 * k) else none) else if 1 ≤ i ∧ i < 5 + 3 * s then rf0 i k else R i k
theorem Rs_0 {I : m_I} {R : m_Rf} (hz : Zz 1 I R) : m_up2 (m_up2 (m_up2 R 1 0 (some 2)) 1 1 (some 3)) 1 2 (some 4) = Rs R 0 := by
  funext i k
  have hR : 1 ≤ i → R i k = none := fun h => (hz.1 i k h).2
  unfold Rs
  by_cases h1 : i = 1
  · subst h1
    rw [if_neg (by omega), if_pos (by omega), rf_1]
    unfold m_up2
    rw [hR (Nat.le_refl _)]
    by_cases k0 : k = 0
    · subst k0; rfl
    · by_cases k1 : k = 1
      · subst k1; rfl
      · by_cases k2 : k = 2
        · subst k2; rfl
        · simp [k0, k1, k2]
  · rw [u2_ne (by omega), u2_ne (by omega), u2_ne (by omega)]
    by_cases h2 : i = 2
    · rw [if_pos h2, if_neg (by omega)]
      exact hR (by omega)
    · rw [if_neg h2]
      by_cases h3 : 1 ≤ i ∧ i < 5 + 3 * 0
      · rw [if_pos h3, hR h3.1, rf_A (by omega) (by omega) (by omega) (by omega)]
        rcases (show i = 3 ∨ i = 4 by omega) with rfl | rfl <;> rfl
      · rw [if_neg h3]
theorem pI_0 {I : m_I} {R : m_Rf} (hz : Zz 1 I R) : I = pI I 1 (5 + 3 * 0) := by
  funext i k
  unfold pI
  by_cases h : 1 ≤ i ∧ i < 5 + 3 * 0
  · rw [if_pos h, (hz.1 i k h.1).1, iv_z (by omega) (by omega) (by omega) (by omega)]
  · rw [if_neg h]
theorem Rs_st {R : m_Rf} {s : Nat} (hs : s < 20) (hR : ∀ i k, 5 + 3 * s ≤ i → R i k = none) : m_up2 (m_up2 (m_up2 (Rs R s) (5 + 3 * s) 8 (some (5 + 3 * s + 1))) (5 + 3 * s) 9 (some (5 + 3 * s + 2))) 2 s (some (5 + 3 * s)) = Rs R (s + 1) := by
  funext i k
  have e2 : ∀ x, m_up2 (m_up2 (Rs R s) (5 + 3 * s) 8 (some (5 + 3 * s + 1))) (5 + 3 * s) 9 (some (5 + 3 * s + 2)) 2 x = Rs R s 2 x := fun x => (u2_ne (by omega)).trans (u2_ne (by omega))
  by_cases h2 : i = 2
  · subst h2
    by_cases hk : k = s
    · rw [hk, u2_eq]
      unfold Rs
      rw [if_pos rfl, if_pos (by omega)]
    · rw [u2_ne (by omega), e2]
      unfold Rs
      rw [if_pos rfl, if_pos rfl]
      by_cases y : k < s
      · rw [if_pos y, if_pos (by omega)]
      · rw [if_neg y, if_neg (by omega)]
  · rw [u2_ne (by omega)]
    by_cases h5 : i = 5 + 3 * s
    · subst h5
      have e : Rs R (s + 1) (5 + 3 * s) k = rf0 (5 + 3 * s) k := by
        unfold Rs
        rw [if_neg (by omega), if_pos (by omega)]
      have e3 : Rs R s (5 + 3 * s) k = none := by
        unfold Rs
        rw [if_neg (by omega), if_neg (by omega)]
        exact hR _ _ (Nat.le_refl _)
      rw [e, rf_s hs rfl]
      by_cases k9 : k = 9
      · subst k9
        rw [u2_eq]
        rfl
      · rw [u2_ne (by omega)]
        by_cases k8 : k = 8
        · subst k8
          rw [u2_eq]
          rfl
        · rw [u2_ne (by omega), e3, if_neg k8, if_neg k9]
    · rw [u2_ne (by omega), u2_ne (by omega)]
      unfold Rs
      rw [if_neg h2, if_neg h2]
      by_cases y : 1 ≤ i ∧ i < 5 + 3 * s
      · rw [if_pos y, if_pos (by omega)]
      · rw [if_neg y]
        by_cases x : 1 ≤ i ∧ i < 5 + 3 * (s + 1)
        · rw [if_pos x, hR i k (by omega)]
          exact (rf_sa hs (by omega)).symm
        · rw [if_neg x]
theorem pI_st {I : m_I} {s : Nat} (hs : s < 20) (hI : ∀ i k, 5 + 3 * s ≤ i → I i k = 0) : flI (flI (m_up2 (pI I 1 (5 + 3 * s)) (5 + 3 * s) 15 (-1)) (5 + 3 * s + 1) 4 (-1)) (5 + 3 * s + 2) 4 (-1) = pI I 1 (5 + 3 * (s + 1)) := by
  funext i k
  have hp : 5 + 3 * s ≤ i → pI I 1 (5 + 3 * s) i k = 0 := fun h => by
    unfold pI
    rw [if_neg (by omega)]
    exact hI i k h
  by_cases h5 : i = 5 + 3 * s
  · have e : pI I 1 (5 + 3 * (s + 1)) i k = iv0 i k := if_pos (by omega)
    rw [e, iv_sc hs h5]
    unfold flI
    rw [if_neg (by omega), if_neg (by omega)]
    by_cases k5 : k = 15
    · rw [h5, k5, u2_eq]
      rfl
    · rw [u2_ne (by omega), hp (by omega), if_neg k5]
  · by_cases h6 : i = 5 + 3 * s + 1
    · have e : pI I 1 (5 + 3 * (s + 1)) i k = iv0 i k := if_pos (by omega)
      rw [e, iv_ar hs (Or.inl h6)]
      unfold flI
      rw [if_neg (by omega)]
      by_cases k4 : k < 4
      · rw [if_pos ⟨h6, k4⟩, if_pos k4]
      · rw [if_neg (by omega), if_neg k4, u2_ne (by omega)]
        exact hp (by omega)
    · by_cases h7 : i = 5 + 3 * s + 2
      · have e : pI I 1 (5 + 3 * (s + 1)) i k = iv0 i k := if_pos (by omega)
        rw [e, iv_ar hs (Or.inr h7)]
        unfold flI
        by_cases k4 : k < 4
        · rw [if_pos ⟨h7, k4⟩, if_pos k4]
        · rw [if_neg (by omega), if_neg (by omega), if_neg k4, u2_ne (by omega)]
          exact hp (by omega)
      · unfold flI
        rw [if_neg (by omega), if_neg (by omega), u2_ne (by omega)]
        unfold pI
        by_cases y : 1 ≤ i ∧ i < 5 + 3 * s
        · rw [if_pos y, if_pos (by omega)]
        · rw [if_neg y, if_neg (by omega)]
theorem Z_X8 {I : m_I} {R : m_Rf} {a : Nat} (hz : Zz (a + 1) I R) : Zz (a + 3) (flI (flI (m_up2 I a 15 (-1)) (a + 1) 4 (-1)) (a + 2) 4 (-1)) (m_up2 (m_up2 R a 8 (some (a + 1))) a 9 (some (a + 2))) :=
  Zz_f (Zz_f (Zz_i (Zz_r (Zz_r (Zz_mono hz (by omega)) (by omega) (by omega)) (by omega) (by omega)) (by omega)) (by omega)) (by omega)
theorem b_X9 {S : m_S} {I : m_I} {R : m_Rf} {d : Nat} (hd : 4 ≤ d) (hz : Zz 1 I R) : m_RR S M_X9_init d [.ref 1] (hq 2 I R) none (hq 65 (pI I 1 65) (pR R 1 65)) 63 524 ∧ Zz 65 (pI I 1 65) (pR R 1 65) := by
  have hI1 : ∀ i k, 1 ≤ i → I i k = 0 := fun i k h => (hz.1 i k h).1
  have hR1 : ∀ i k, 1 ≤ i → R i k = none := fun i k h => (hz.1 i k h).2
  have eR20 : Rs R 20 = pR R 1 65 := by
    funext i k
    unfold Rs pR
    by_cases h2 : i = 2
    · subst h2
      rw [if_pos rfl, show (if 1 ≤ 2 ∧ 2 < 65 then rf0 2 k else R 2 k) = rf0 2 k from if_pos (by omega), rf_2]
    · rw [if_neg h2]
  have hz0 : Zz (5 + 3 * 0) (pI I 1 (5 + 3 * 0)) (Rs R 0) := by
    rw [← Rs_0 hz, ← pI_0 hz]
    exact Zz_r (Zz_r (Zz_r (Zz_mono hz (by omega)) (by omega) (by omega)) (by omega) (by omega)) (by omega) (by omega)
  have hzs : ∀ s, s ≤ 20 → Zz (5 + 3 * s) (pI I 1 (5 + 3 * s)) (Rs R s) := by
    intro s
    induction s with
    | zero => exact fun _ => hz0
    | succ s ih =>
      intro hs
      have h := Zz_r (Z_X8 (Zz_mono (ih (by omega)) (Nat.le_succ _))) (i := 2) (k := s) (a := 5 + 3 * s) (by omega) (by omega)
      rw [Rs_st (by omega) (fun i k h => hR1 i k (by omega)), pI_st (by omega) (fun i k h => hI1 i k (by omega))] at h
      exact h
  have hz20 := hzs 20 (Nat.le_refl _)
  rw [eR20] at hz20
  refine ⟨?_, hz20⟩
  have loop : ∀ (q s : Nat), s ≤ 20 → 20 - s < q → ∀ rc rs, 3 * (20 - s) ≤ rc → 24 * (20 - s) ≤ rs → m_W S (M_X9_init, d, fun w g => w = none ∧ g = hq 65 (pI I 1 65) (pR R 1 65), fun _ _ => False) 30 [some (.ref 1), some (.int (nI s))] [] (hq (5 + 3 * s) (pI I 1 (5 + 3 * s)) (Rs R s)) rc rs := by
    intro q
    induction q with
    | zero => exact fun s _ h => absurd h (Nat.not_lt_zero _)
    | succ q ih =>
      intro s hs hq rc rs hrc hrs
      have hz := hzs s hs
      refine ms_iload_n dX9_init_30 rfl ?_
      refine ms_bipush (v := nI 20) dX9_init_31 (by decide) ?_
      refine n_icmp_ge (tgt := 55) dX9_init_33 (by decide) (by omega) (by omega) (fun c33 => ?_) (fun c33 => ?_)
      · obtain rfl : s = 20 := by omega
        refine ms_vret dX9_init_55 rfl rfl ⟨rfl, ?_⟩
        rw [eR20]
      · have hs2 : s < 20 := by omega
        have h0 : sh0 (5 + 3 * s) = (8, 0) := sh_sc hs2
        have h1 : sh0 (5 + 3 * s + 1) = (100, 4) := by
          have e := sh_wa hs2
          rw [show 5 + 3 * s + 1 = waI s by unfold waI; omega]
          exact e
        have h2 : sh0 (5 + 3 * s + 2) = (100, 4) := by
          have e := sh_le hs2
          rw [show 5 + 3 * s + 2 = leI s by unfold leI; omega]
          exact e
        have hv : Rs R s 1 0 = some 2 := by
          unfold Rs
          rw [if_neg (by omega), if_pos (by omega)]
          rfl
        refine ms_aload_n dX9_init_36 rfl ?_
        refine p_getr dX9_init_37 fX9_11 kd_9_0 (by omega) (by first | rfl | assumption) (hv) ?_
        refine ms_iload_n dX9_init_40 rfl ?_
        refine p_new 16 dX9_init_41 hz (by omega) (by first | rfl | (simp [lvA, lvb, lvc]; done) | (simp [lvA, lvb, lvc]; omega) | (simp [lvA, lvb, lvc, m_L0]; done) | (simp [lvA, lvb, lvc, m_L0]; omega)) (by first | rfl | (simp [lvA, lvb, lvc]; done) | (simp [lvA, lvb, lvc]; omega) | (simp [lvA, lvb, lvc, m_L0]; done) | (simp [lvA, lvb, lvc, m_L0]; omega)) nX9_9 (by decide) (by first | rfl | assumption) (by omega) (by omega) (fun hz => ?_)
        refine ms_dup dX9_init_44 rfl ?_
        refine p_cI0 dX9_init_45 kX9_24 (d := d - 1) (by show d - 1 + 1 ≤ d; omega) (Nat.le_of_ble_eq_true rfl) (Nat.le_of_ble_eq_true rfl) (b_X8 (by omega) (by omega) h0 h1 h2 hz) (by omega) (by omega) (by first | rfl | (simp [lvA, lvb, lvc]; done) | (simp [lvA, lvb, lvc]; omega) | (simp [lvA, lvb, lvc, m_L0]; done) | (simp [lvA, lvb, lvc, m_L0]; omega)) (by first | rfl | (simp [lvA, lvb, lvc]; done) | (simp [lvA, lvb, lvc]; omega) | (simp [lvA, lvb, lvc, m_L0]; done) | (simp [lvA, lvb, lvc, m_L0]; omega)) ?_
        have hz := Z_X8 hz
        refine p_aast dX9_init_48 hz (by omega) (show sh0 2 = (103, 20) from rfl) (Or.inl ⟨rfl, h0⟩) (by omega) (by omega) (by omega) (fun hz => ?_)
        rw [Rs_st hs2 (fun i k h => hR1 i k (by omega)), pI_st hs2 (fun i k h => hI1 i k (by omega))]
        refine n_iinc dX9_init_49 rfl ?_
        refine ms_goto (tgt := 30) dX9_init_52 (by decide) ?_
        exact ih (s + 1) (by omega) (by omega) _ _ (by omega) (by omega)
  have hz := Zz_mono hz (Nat.le_succ 1)
  refine ms_aload_n dX9_init_0 rfl ?_
  refine ms_obj dX9_init_1 oX9_3 oi1 oi2 (by show 1 ≤ d; omega) (Nat.le_of_ble_eq_true rfl) ?_
  refine ms_aload_n dX9_init_4 rfl ?_
  refine ms_bipush (v := nI 20) dX9_init_5 (by decide) ?_
  refine p_newS dX9_init_7 hz (by omega) (by first | rfl | (simp [lvA, lvb, lvc]; done) | (simp [lvA, lvb, lvc]; omega) | (simp [lvA, lvb, lvc, m_L0]; done) | (simp [lvA, lvb, lvc, m_L0]; omega)) (by first | rfl | (simp [lvA, lvb, lvc]; done) | (simp [lvA, lvb, lvc]; omega) | (simp [lvA, lvb, lvc, m_L0]; done) | (simp [lvA, lvb, lvc, m_L0]; omega)) aX9_9 (by first | rfl | assumption) (by omega) (by omega) (by omega) (fun hz => ?_)
  refine p_putr dX9_init_10 fX9_11 pX9_9_0 kd_9_0 hz (by omega) (by first | rfl | assumption) (by omega) rfl (fun hz => ?_)
  refine ms_aload_n dX9_init_13 rfl ?_
  refine ms_bipush (v := nI 20) dX9_init_14 (by decide) ?_
  refine p_newI dX9_init_16 hz (by omega) (by first | rfl | (simp [lvA, lvb, lvc]; done) | (simp [lvA, lvb, lvc]; omega) | (simp [lvA, lvb, lvc, m_L0]; done) | (simp [lvA, lvb, lvc, m_L0]; omega)) (by first | rfl | (simp [lvA, lvb, lvc]; done) | (simp [lvA, lvb, lvc]; omega) | (simp [lvA, lvb, lvc, m_L0]; done) | (simp [lvA, lvb, lvc, m_L0]; omega)) (by first | rfl | assumption) (by omega) (by omega) (by omega) (fun hz => ?_)
  refine p_putr dX9_init_18 fX9_17 pX9_9_1 kd_9_1 hz (by omega) (by first | rfl | assumption) (by omega) rfl (fun hz => ?_)
  refine ms_aload_n dX9_init_21 rfl ?_
  refine ms_iconst (v := nI 4) dX9_init_22 (by decide) ?_
  refine p_newI dX9_init_23 hz (by omega) (by first | rfl | (simp [lvA, lvb, lvc]; done) | (simp [lvA, lvb, lvc]; omega) | (simp [lvA, lvb, lvc, m_L0]; done) | (simp [lvA, lvb, lvc, m_L0]; omega)) (by first | rfl | (simp [lvA, lvb, lvc]; done) | (simp [lvA, lvb, lvc]; omega) | (simp [lvA, lvb, lvc, m_L0]; done) | (simp [lvA, lvb, lvc, m_L0]; omega)) (by first | rfl | assumption) (by omega) (by omega) (by omega) (fun hz => ?_)
  refine p_putr dX9_init_25 fX9_21 pX9_9_2 kd_9_2 hz (by omega) (by first | rfl | assumption) (by omega) rfl (fun hz => ?_)
  refine ms_iconst (v := nI 0) dX9_init_28 (by decide) ?_
  refine ms_istore_n dX9_init_29 (Nat.le_of_ble_eq_true rfl) ?_
  rw [Rs_0 ‹Zz 1 I R›]
  have h9 := loop 21 0 (by omega) (by omega)
  rw [← pI_0 ‹Zz 1 I R›] at h9
  exact h9 _ _ (by omega) (by omega)
/-- the board with s days made -/
def Rd (R : m_Rf) (s : Nat) : m_Rf := fun i k => if i = 74 then (if k < s then some (80 + 2 * k) else none) else if 72 ≤ i ∧ i < 80 + 2 * s then rf0 i k else R i k
def ck75 (R : m_Rf) : m_Rf := m_up2 (m_up2 (m_up2 (m_up2 (m_up2 (m_up2 (m_up2 (m_up2 R 75 4 (some 76)) 75 5 (some 77)) 75 6 (some 78)) 75 7 (some 79)) 75 0 (some 1)) 75 1 (some 65)) 75 2 (some 69)) 75 3 (some 73)
theorem ck75_ne {R : m_Rf} {i k : Nat} (h : i ≠ 75) : ck75 R i k = R i k := by
  unfold ck75
  rw [u2_ne (by omega), u2_ne (by omega), u2_ne (by omega), u2_ne (by omega), u2_ne (by omega), u2_ne (by omega), u2_ne (by omega), u2_ne (by omega)]
theorem ck75_eq {R : m_Rf} {k : Nat} (h : R 75 k = none) : ck75 R 75 k = rf0 75 k := by
  rw [rf_75]
  unfold ck75 m_up2
  rw [h]
  by_cases k0 : k = 0
  · subst k0; rfl
  · by_cases k1 : k = 1
    · subst k1; rfl
    · by_cases k2 : k = 2
      · subst k2; rfl
      · by_cases k3 : k = 3
        · subst k3; rfl
        · by_cases k4 : k = 4
          · subst k4; rfl
          · by_cases k5 : k = 5
            · subst k5; rfl
            · by_cases k6 : k = 6
              · subst k6; rfl
              · by_cases k7 : k = 7
                · subst k7; rfl
                · simp [k0, k1, k2, k3, k4, k5, k6, k7]
theorem Rd_0 {I : m_I} {R : m_Rf} (hz : Zz 72 I R) : m_up2 (ck75 (m_up2 (m_up2 (m_up2 R 72 1 (some 73)) 72 2 (some 74)) 72 0 (some 1))) 72 3 (some 75) = Rd R 0 := by
  funext i k
  have hR : 72 ≤ i → R i k = none := fun h => (hz.1 i k h).2
  unfold Rd
  by_cases h1 : i = 72
  · subst h1
    have e : ck75 (m_up2 (m_up2 (m_up2 R 72 1 (some 73)) 72 2 (some 74)) 72 0 (some 1)) 72 k = m_up2 (m_up2 (m_up2 R 72 1 (some 73)) 72 2 (some 74)) 72 0 (some 1) 72 k := ck75_ne (by omega)
    rw [if_neg (by omega), if_pos (by omega), rf_72]
    by_cases k3 : k = 3
    · subst k3
      rw [u2_eq]
      rfl
    · rw [u2_ne (by omega), e]
      unfold m_up2
      rw [hR (Nat.le_refl _)]
      by_cases k0 : k = 0
      · subst k0; rfl
      · by_cases k1 : k = 1
        · subst k1; rfl
        · by_cases k2 : k = 2
          · subst k2; rfl
          · simp [k0, k1, k2, k3]
  · rw [u2_ne (by omega)]
    by_cases h5 : i = 75
    · subst h5
      rw [if_neg (by omega), if_pos (by omega)]
      refine ck75_eq ?_
      rw [u2_ne (by omega), u2_ne (by omega), u2_ne (by omega)]
      exact hR (by omega)
    · rw [ck75_ne h5, u2_ne (by omega), u2_ne (by omega), u2_ne (by omega)]
      by_cases h2 : i = 74
      · rw [if_pos h2, if_neg (by omega)]
        exact hR (by omega)
      · rw [if_neg h2]
        by_cases h3 : 72 ≤ i ∧ i < 80 + 2 * 0
        · rw [if_pos h3, hR h3.1, rf_A (by omega) (by omega) (by omega) (by omega)]
          rcases (show i = 73 ∨ i = 76 ∨ i = 77 ∨ i = 78 ∨ i = 79 by omega) with rfl | rfl | rfl | rfl | rfl <;> rfl
        · rw [if_neg h3]
theorem pD_0 {I : m_I} {R : m_Rf} (hz : Zz 72 I R) : I = pI I 72 (80 + 2 * 0) := by
  funext i k
  unfold pI
  by_cases h : 72 ≤ i ∧ i < 80 + 2 * 0
  · rw [if_pos h, (hz.1 i k h.1).1, iv_z (by omega) (by omega) (by omega) (by omega)]
  · rw [if_neg h]
theorem Rd_st {R : m_Rf} {s : Nat} (hs : s < 30) (hR : ∀ i k, 80 + 2 * s ≤ i → R i k = none) : m_up2 (m_up2 (Rd R s) (80 + 2 * s) 5 (some (80 + 2 * s + 1))) 74 s (some (80 + 2 * s)) = Rd R (s + 1) := by
  funext i k
  by_cases h2 : i = 74
  · subst h2
    by_cases hk : k = s
    · rw [hk, u2_eq]
      unfold Rd
      rw [if_pos rfl, if_pos (by omega)]
    · rw [u2_ne (by omega), u2_ne (by omega)]
      unfold Rd
      rw [if_pos rfl, if_pos rfl]
      by_cases y : k < s
      · rw [if_pos y, if_pos (by omega)]
      · rw [if_neg y, if_neg (by omega)]
  · rw [u2_ne (by omega)]
    by_cases h5 : i = 80 + 2 * s
    · subst h5
      have e : Rd R (s + 1) (80 + 2 * s) k = rf0 (80 + 2 * s) k := by
        unfold Rd
        rw [if_neg (by omega), if_pos (by omega)]
      have e3 : Rd R s (80 + 2 * s) k = none := by
        unfold Rd
        rw [if_neg (by omega), if_neg (by omega)]
        exact hR _ _ (Nat.le_refl _)
      rw [e, rf_d hs rfl]
      by_cases k9 : k = 5
      · subst k9
        rw [u2_eq]
        rfl
      · rw [u2_ne (by omega), e3, if_neg k9]
    · rw [u2_ne (by omega)]
      unfold Rd
      rw [if_neg h2, if_neg h2]
      by_cases y : 72 ≤ i ∧ i < 80 + 2 * s
      · rw [if_pos y, if_pos (by omega)]
      · rw [if_neg y]
        by_cases x : 72 ≤ i ∧ i < 80 + 2 * (s + 1)
        · rw [if_pos x, hR i k (by omega)]
          exact (rf_da hs (by omega)).symm
        · rw [if_neg x]
theorem pD_st {I : m_I} {s : Nat} (hs : s < 30) (hI : ∀ i k, 80 + 2 * s ≤ i → I i k = 0) : m_up2 (m_up2 (m_up2 (pI I 72 (80 + 2 * s)) (80 + 2 * s) 0 (nI 480)) (80 + 2 * s) 1 (nI 360)) (80 + 2 * s) 2 (nI 1080) = pI I 72 (80 + 2 * (s + 1)) := by
  funext i k
  have hp : 80 + 2 * s ≤ i → pI I 72 (80 + 2 * s) i k = 0 := fun h => by
    unfold pI
    rw [if_neg (by omega)]
    exact hI i k h
  by_cases h5 : i = 80 + 2 * s
  · have e : pI I 72 (80 + 2 * (s + 1)) i k = iv0 i k := if_pos (by omega)
    rw [e, iv_dy hs h5]
    subst h5
    by_cases k2 : k = 2
    · subst k2
      rw [u2_eq]
      rfl
    · rw [u2_ne (by omega)]
      by_cases k1 : k = 1
      · subst k1
        rw [u2_eq]
        rfl
      · rw [u2_ne (by omega)]
        by_cases k0 : k = 0
        · subst k0
          rw [u2_eq]
          rfl
        · rw [u2_ne (by omega), hp (Nat.le_refl _), if_neg k0, if_neg k1, if_neg k2]
  · rw [u2_ne (by omega), u2_ne (by omega), u2_ne (by omega)]
    by_cases h6 : i = 80 + 2 * s + 1
    · have e : pI I 72 (80 + 2 * (s + 1)) i k = iv0 i k := if_pos (by omega)
      rw [e, iv_rw hs h6]
      exact hp (by omega)
    · unfold pI
      by_cases y : 72 ≤ i ∧ i < 80 + 2 * s
      · rw [if_pos y, if_pos (by omega)]
      · rw [if_neg y, if_neg (by omega)]
theorem Z_X3 {I : m_I} {R : m_Rf} {a : Nat} (hz : Zz (a + 1) I R) : Zz (a + 2) (m_up2 (m_up2 (m_up2 I a 0 (nI 480)) a 1 (nI 360)) a 2 (nI 1080)) (m_up2 R a 5 (some (a + 1))) :=
  Zz_i (Zz_i (Zz_i (Zz_r (Zz_mono hz (by omega)) (by omega) (by omega)) (by omega)) (by omega)) (by omega)
theorem Z_X1 {I : m_I} {R : m_Rf} (hz : Zz 76 I R) : Zz 80 I (ck75 R) :=
  Zz_r (Zz_r (Zz_r (Zz_r (Zz_r (Zz_r (Zz_r (Zz_r (Zz_mono hz (by omega)) (by omega) (by omega)) (by omega) (by omega)) (by omega) (by omega)) (by omega) (by omega)) (by omega) (by omega)) (by omega) (by omega)) (by omega) (by omega)) (by omega) (by omega)
theorem b_X0 {S : m_S} {I : m_I} {R : m_Rf} {d : Nat} (hd : 4 ≤ d) (hz : Zz 72 I R) : m_RR S M_X0_init d [.ref 72, .ref 1, .ref 65, .ref 69] (hq 73 I R) none (hq 140 (pI I 72 140) (pR R 72 140)) 67 525 ∧ Zz 140 (pI I 72 140) (pR R 72 140) := by
  have hI1 : ∀ i k, 72 ≤ i → I i k = 0 := fun i k h => (hz.1 i k h).1
  have hR1 : ∀ i k, 72 ≤ i → R i k = none := fun i k h => (hz.1 i k h).2
  have eR30 : Rd R 30 = pR R 72 140 := by
    funext i k
    unfold Rd pR
    by_cases h2 : i = 74
    · subst h2
      rw [if_pos rfl, show (if 72 ≤ 74 ∧ 74 < 140 then rf0 74 k else R 74 k) = rf0 74 k from if_pos (by omega), rf_74]
    · rw [if_neg h2]
  have hz0 : Zz (80 + 2 * 0) (pI I 72 (80 + 2 * 0)) (Rd R 0) := by
    rw [← Rd_0 hz, ← pD_0 hz]
    exact Zz_r (Z_X1 (Zz_r (Zz_r (Zz_r (Zz_mono hz (by omega)) (by omega) (by omega)) (by omega) (by omega)) (by omega) (by omega))) (by omega) (by omega)
  have hzs : ∀ s, s ≤ 30 → Zz (80 + 2 * s) (pI I 72 (80 + 2 * s)) (Rd R s) := by
    intro s
    induction s with
    | zero => exact fun _ => hz0
    | succ s ih =>
      intro hs
      have h := Zz_r (Z_X3 (Zz_mono (ih (by omega)) (Nat.le_succ _))) (i := 74) (k := s) (a := 80 + 2 * s) (by omega) (by omega)
      rw [Rd_st (by omega) (fun i k h => hR1 i k (by omega)), pD_st (by omega) (fun i k h => hI1 i k (by omega))] at h
      exact h
  have hz30 := hzs 30 (Nat.le_refl _)
  rw [eR30] at hz30
  refine ⟨?_, hz30⟩
  have loop : ∀ (q s : Nat), s ≤ 30 → 30 - s < q → ∀ rc rs, 2 * (30 - s) ≤ rc → 15 * (30 - s) ≤ rs → m_W S (M_X0_init, d, fun w g => w = none ∧ g = hq 140 (pI I 72 140) (pR R 72 140), fun _ _ => False) 50 [some (.ref 72), some (.ref 1), some (.ref 65), some (.ref 69), some (.int (nI s))] [] (hq (80 + 2 * s) (pI I 72 (80 + 2 * s)) (Rd R s)) rc rs := by
    intro q
    induction q with
    | zero => exact fun s _ h => absurd h (Nat.not_lt_zero _)
    | succ q ih =>
      intro s hs hq rc rs hrc hrs
      have hz := hzs s hs
      refine ms_iload dX0_init_50 rfl ?_
      refine ms_bipush (v := nI 30) dX0_init_52 (by decide) ?_
      refine n_icmp_ge (tgt := 77) dX0_init_54 (by decide) (by omega) (by omega) (fun c54 => ?_) (fun c54 => ?_)
      · obtain rfl : s = 30 := by omega
        refine ms_vret dX0_init_77 rfl rfl ⟨rfl, ?_⟩
        rw [eR30]
      · have hs2 : s < 30 := by omega
        have h0 : sh0 (80 + 2 * s) = (3, 0) := sh_dy hs2
        have h1 : sh0 (80 + 2 * s + 1) = (100, 8) := by
          have e := sh_rw hs2
          rw [show 80 + 2 * s + 1 = rwI s by unfold rwI; omega]
          exact e
        have hv : Rd R s 72 2 = some 74 := by
          unfold Rd
          rw [if_neg (by omega), if_pos (by omega)]
          rfl
        refine ms_aload_n dX0_init_57 rfl ?_
        refine p_getr dX0_init_58 fX0_20 kd_0_2 (by omega) (by first | rfl | assumption) (hv) ?_
        refine ms_iload dX0_init_61 rfl ?_
        refine p_new 7 dX0_init_63 hz (by omega) (by first | rfl | (simp [lvA, lvb, lvc]; done) | (simp [lvA, lvb, lvc]; omega) | (simp [lvA, lvb, lvc, m_L0]; done) | (simp [lvA, lvb, lvc, m_L0]; omega)) (by first | rfl | (simp [lvA, lvb, lvc]; done) | (simp [lvA, lvb, lvc]; omega) | (simp [lvA, lvb, lvc, m_L0]; done) | (simp [lvA, lvb, lvc, m_L0]; omega)) nX0_18 (by decide) (by first | rfl | assumption) (by omega) (by omega) (fun hz => ?_)
        refine ms_dup dX0_init_66 rfl ?_
        refine p_cJ0 dX0_init_67 kX0_37 (d := d - 1) (by show d - 1 + 1 ≤ d; omega) (Nat.le_of_ble_eq_true rfl) (Nat.le_of_ble_eq_true rfl) (b_X3 (by omega) (by omega) h0 h1 hz) (by omega) (by omega) (by first | rfl | (simp [lvA, lvb, lvc]; done) | (simp [lvA, lvb, lvc]; omega) | (simp [lvA, lvb, lvc, m_L0]; done) | (simp [lvA, lvb, lvc, m_L0]; omega)) (by first | rfl | (simp [lvA, lvb, lvc]; done) | (simp [lvA, lvb, lvc]; omega) | (simp [lvA, lvb, lvc, m_L0]; done) | (simp [lvA, lvb, lvc, m_L0]; omega)) ?_
        have hz := Z_X3 hz
        refine p_aast dX0_init_70 hz (by omega) (show sh0 74 = (104, 30) from rfl) (Or.inr ⟨rfl, h0⟩) (by omega) (by omega) (by omega) (fun hz => ?_)
        rw [Rd_st hs2 (fun i k h => hR1 i k (by omega)), pD_st hs2 (fun i k h => hI1 i k (by omega))]
        refine n_iinc dX0_init_71 rfl ?_
        refine ms_goto (tgt := 50) dX0_init_74 (by decide) ?_
        exact ih (s + 1) (by omega) (by omega) _ _ (by omega) (by omega)
  have hz1 := hz
  have hz := Zz_mono hz (Nat.le_succ 72)
  refine ms_aload_n dX0_init_0 rfl ?_
  refine ms_obj dX0_init_1 oX0_3 oi1 oi2 (by show 1 ≤ d; omega) (Nat.le_of_ble_eq_true rfl) ?_
  refine ms_aload_n dX0_init_4 rfl ?_
  refine p_new 2 dX0_init_5 hz (by omega) (by first | rfl | (simp [lvA, lvb, lvc]; done) | (simp [lvA, lvb, lvc]; omega) | (simp [lvA, lvb, lvc, m_L0]; done) | (simp [lvA, lvb, lvc, m_L0]; omega)) (by first | rfl | (simp [lvA, lvb, lvc]; done) | (simp [lvA, lvb, lvc]; omega) | (simp [lvA, lvb, lvc, m_L0]; done) | (simp [lvA, lvb, lvc, m_L0]; omega)) nX0_9 (by decide) (by first | rfl | assumption) (by omega) (by omega) (fun hz => ?_)
  refine ms_dup dX0_init_8 rfl ?_
  refine p_cJ0 dX0_init_9 kX0_11 (d := d - 1) (by show d - 1 + 1 ≤ d; omega) (Nat.le_of_ble_eq_true rfl) (Nat.le_of_ble_eq_true rfl) (b_X5 (by omega)) (by omega) (by omega) (by first | rfl | (simp [lvA, lvb, lvc]; done) | (simp [lvA, lvb, lvc]; omega) | (simp [lvA, lvb, lvc, m_L0]; done) | (simp [lvA, lvb, lvc, m_L0]; omega)) (by first | rfl | (simp [lvA, lvb, lvc]; done) | (simp [lvA, lvb, lvc]; omega) | (simp [lvA, lvb, lvc, m_L0]; done) | (simp [lvA, lvb, lvc, m_L0]; omega)) ?_
  refine p_putr dX0_init_12 fX0_12 pX0_0_1 kd_0_1 hz (by omega) (by first | rfl | assumption) (by omega) rfl (fun hz => ?_)
  refine ms_aload_n dX0_init_15 rfl ?_
  refine ms_bipush (v := nI 30) dX0_init_16 (by decide) ?_
  refine p_newD dX0_init_18 hz (by omega) (by first | rfl | (simp [lvA, lvb, lvc]; done) | (simp [lvA, lvb, lvc]; omega) | (simp [lvA, lvb, lvc, m_L0]; done) | (simp [lvA, lvb, lvc, m_L0]; omega)) (by first | rfl | (simp [lvA, lvb, lvc]; done) | (simp [lvA, lvb, lvc]; omega) | (simp [lvA, lvb, lvc, m_L0]; done) | (simp [lvA, lvb, lvc, m_L0]; omega)) aX0_18 (by first | rfl | assumption) (by omega) (by omega) (by omega) (fun hz => ?_)
  refine p_putr dX0_init_21 fX0_20 pX0_0_2 kd_0_2 hz (by omega) (by first | rfl | assumption) (by omega) rfl (fun hz => ?_)
  refine ms_aload_n dX0_init_24 rfl ?_
  refine ms_aload_n dX0_init_25 rfl ?_
  refine p_putr dX0_init_26 fX0_24 pX0_0_0 kd_0_0 hz (by omega) (by first | rfl | assumption) (by omega) rfl (fun hz => ?_)
  refine ms_aload_n dX0_init_29 rfl ?_
  refine p_new 11 dX0_init_30 hz (by omega) (by first | rfl | (simp [lvA, lvb, lvc]; done) | (simp [lvA, lvb, lvc]; omega) | (simp [lvA, lvb, lvc, m_L0]; done) | (simp [lvA, lvb, lvc, m_L0]; omega)) (by first | rfl | (simp [lvA, lvb, lvc]; done) | (simp [lvA, lvb, lvc]; omega) | (simp [lvA, lvb, lvc, m_L0]; done) | (simp [lvA, lvb, lvc, m_L0]; omega)) nX0_28 (by decide) (by first | rfl | assumption) (by omega) (by omega) (fun hz => ?_)
  refine ms_dup dX0_init_33 rfl ?_
  refine ms_aload_n dX0_init_34 rfl ?_
  refine ms_aload_n dX0_init_35 rfl ?_
  refine ms_aload_n dX0_init_36 rfl ?_
  refine ms_aload_n dX0_init_37 rfl ?_
  refine p_getr dX0_init_38 fX0_12 kd_0_1 (by omega) (by first | rfl | assumption) ((u2_ne (by omega)).trans ((u2_ne (by omega)).trans u2_eq)) ?_
  refine p_cI4 dX0_init_41 kX0_30 (d := d - 1) (by show d - 1 + 1 ≤ d; omega) rfl rfl rfl rfl (Nat.le_of_ble_eq_true rfl) (Nat.le_of_ble_eq_true rfl) (b_X1 (by omega) hz) (by omega) (by omega) (by first | rfl | (simp [lvA, lvb, lvc]; done) | (simp [lvA, lvb, lvc]; omega) | (simp [lvA, lvb, lvc, m_L0]; done) | (simp [lvA, lvb, lvc, m_L0]; omega)) (by first | rfl | (simp [lvA, lvb, lvc]; done) | (simp [lvA, lvb, lvc]; omega) | (simp [lvA, lvb, lvc, m_L0]; done) | (simp [lvA, lvb, lvc, m_L0]; omega)) ?_
  have hz := Z_X1 hz
  refine p_putr dX0_init_44 fX0_33 pX0_0_3 kd_0_3 hz (by omega) (by first | rfl | assumption) (by omega) rfl (fun hz => ?_)
  refine ms_iconst (v := nI 0) dX0_init_47 (by decide) ?_
  refine ms_istore dX0_init_48 (Nat.le_of_ble_eq_true rfl) ?_
  have h9 := loop 31 0 (by omega) (by omega)
  rw [← pD_0 hz1, ← Rd_0 hz1] at h9
  exact h9 _ _ (by omega) (by omega)

