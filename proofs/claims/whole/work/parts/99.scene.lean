-- NAME scene
/-! calls: a scene is made -/
theorem tkC_bt {I : m_I} {x : Int32} {m q : Nat} (h6 : ∀ s, s < m → vN (I (scI s) 7) ≤ 26) (hq : q < 32) : ∀ k, k ≤ m → (bt (tkC I x k) q = true ↔ ∃ j, j < k ∧ I (scI j) 6 = x ∧ I (scI j) 7 = nI q) := by
  intro k
  induction k with
  | zero => exact fun _ => ⟨fun z => absurd ((b_0 q).symm.trans z) (by decide), fun ⟨j, hj, _⟩ => absurd hj (Nat.not_lt_zero j)⟩
  | succ k ih =>
    intro hk
    have h1 := ih (by omega)
    have hl := h6 k (by omega)
    have el : I (scI k) 7 = nI (vN (I (scI k) 7)) := (nI_vN _).symm
    obtain ⟨l, hl9⟩ : ∃ l, l = vN (I (scI k) 7) := ⟨_, rfl⟩
    rw [← hl9] at el hl
    unfold tkC
    by_cases z : I (scI k) 6 = x
    · rw [if_pos z, b_or, el, b_one (by omega) hq, Bool.or_eq_true, h1, decide_eq_true_iff]
      refine ⟨fun y => ?_, fun ⟨j, j1, j2, j3⟩ => ?_⟩
      · rcases y with ⟨j, j1, j2, j3⟩ | y
        · exact ⟨j, by omega, j2, j3⟩
        · exact ⟨k, by omega, z, by rw [el, y]⟩
      · by_cases e : j = k
        · subst e
          rw [el] at j3
          exact Or.inr ((nI_eq (by omega) (by omega)).mp j3).symm
        · exact Or.inl ⟨j, by omega, j2, j3⟩
    · rw [if_neg z, h1]
      refine ⟨fun ⟨j, j1, j2, j3⟩ => ⟨j, by omega, j2, j3⟩, fun ⟨j, j1, j2, j3⟩ => ?_⟩
      by_cases e : j = k
      · subst e
        exact absurd j2 z
      · exact ⟨j, by omega, j2, j3⟩
/-- a letter is free -/
theorem free_let {I : m_I} {x : Int32} {m : Nat} (hm : m ≤ 20) (h6 : ∀ s, s < m → vN (I (scI s) 7) ≤ 26) : ∃ q, 1 ≤ q ∧ q ≤ 26 ∧ bt (tkC I x m) q = false ∧ ∀ p, 1 ≤ p → p < q → bt (tkC I x m) p = true := by
  have ex : ∃ q, 1 ≤ q ∧ q ≤ 26 ∧ bt (tkC I x m) q = false := by
    refine Classical.byContradiction (fun hno => ?_)
    have hall : ∀ q, q < 26 → bt (tkC I x m) (q + 1) = true := fun q hq => by
      rcases Bool.eq_false_or_eq_true (bt (tkC I x m) (q + 1)) with z | z
      · exact z
      · exact absurd ⟨q + 1, by omega, by omega, z⟩ hno
    obtain ⟨g, hg⟩ : ∃ g : Nat → Nat, g = fun q => fst1 (fun j => decide (I (scI j) 6 = x ∧ I (scI j) 7 = nI (q + 1))) m := ⟨_, rfl⟩
    have hg1 : ∀ q, q < 26 → g q < m ∧ I (scI (g q)) 7 = nI (q + 1) := fun q hq => by
      obtain ⟨j, j1, j2, j3⟩ := (tkC_bt h6 (by omega) m (Nat.le_refl _)).mp (hall q hq)
      obtain ⟨f1, f2, f3⟩ := fst1_ok (fun j => decide (I (scI j) 6 = x ∧ I (scI j) 7 = nI (q + 1))) m
      have h4 : g q < m := by
        rw [hg]
        refine Nat.lt_of_not_le fun z => ?_
        have := f2 j (Nat.lt_of_lt_of_le j1 z)
        rw [decide_eq_true ⟨j2, j3⟩] at this
        exact absurd this (by decide)
      refine ⟨h4, ?_⟩
      have h5 := f3 (by rw [hg] at h4; exact h4)
      have h7 := (of_decide_eq_true h5).2
      rw [hg]
      exact h7
    have := fb_holes m 26 g (fun i hi => (hg1 i hi).1) (fun i j hij hj e => by
      have e1 := (hg1 i (by omega)).2
      have e2 := (hg1 j hj).2
      rw [e, e2] at e1
      have := (nI_eq (by omega) (by omega)).mp e1
      omega)
    omega
  obtain ⟨q, ⟨q1, q2, q3⟩, hmin⟩ := pk_least (fun q => 1 ≤ q ∧ q ≤ 26 ∧ bt (tkC I x m) q = false) ex
  refine ⟨q, q1, q2, q3, fun p h1 h2 => ?_⟩
  rcases Bool.eq_false_or_eq_true (bt (tkC I x m) p) with z | z
  · exact z
  · exact absurd ⟨h1, by omega, z⟩ (hmin p h2)
theorem shI_up {I : m_I} {t lo hi a b : Nat} {x : Int32} (h : a ≠ t) : shI (m_up2 I a b x) t lo hi = m_up2 (shI I t lo hi) a b x := by
  funext c d
  unfold shI m_up2
  dsimp only
  by_cases h1 : c = t ∧ lo < d ∧ d ≤ hi
  · rw [if_pos h1, if_neg (by omega), if_neg (by omega), if_pos h1]
  · rw [if_neg h1, if_neg h1]
theorem sh_up {I : m_I} {sp n a b : Nat} {x y : Int32} (h : a ≠ 3) : m_up2 (shI (m_up2 I a b x) 3 sp n) 3 sp y = m_up2 (m_up2 (shI I 3 sp n) 3 sp y) a b x := by
  rw [shI_up h, m_up2_cm _ _ _ (fun z => h z.1)]
theorem or_ad {I : m_I} {n sp : Nat} {x1 x2 x3 x4 : Int32} : orI (adI I n x1 x2 x3 x4) n sp = m_up2 (adI (m_up2 (shI I 3 sp n) 3 sp (nI n)) n x1 x2 x3 x4) 1 3 (nI (n + 1)) := by
  have h : scI n ≠ 3 := by unfold scI; omega
  unfold orI adI
  rw [sh_up h, sh_up h, sh_up h, sh_up h]
theorem or_lb {I : m_I} {n sp : Nat} {x1 x2 x3 x4 x l : Int32} : orI (lbI (adI I n x1 x2 x3 x4) n x l) n sp = m_up2 (lbI (adI (m_up2 (shI I 3 sp n) 3 sp (nI n)) n x1 x2 x3 x4) n x l) 1 3 (nI (n + 1)) := by
  have h : scI n ≠ 3 := by unfold scI; omega
  unfold orI lbI adI
  rw [sh_up h, sh_up h, sh_up h, sh_up h, sh_up h, sh_up h]
/-- the order is moved on both sides -/
theorem Cr_so {I J : m_I} (hm : vm I ≤ 20) (h : Cr I J) {sp n : Nat} (hn : n < 20) : Cr (shI I 3 sp n) (shI J 144 sp n) := by
  have e0 : ∀ c d, c ≠ 3 → shI I 3 sp n c d = I c d := fun c d z => shI_ne z
  have e1 : vm (shI I 3 sp n) = vm I := congrArg vN (e0 _ _ (by decide))
  have e2 : vlc (shI I 3 sp n) = vlc I := congrArg vN (e0 _ _ (by decide))
  refine ⟨fun a2 b2 hl => ?_, fun p hp => ?_, fun p t2 hp ht2 => ?_, fun p t2 hp ht2 => ?_⟩
  · rw [e1] at hl
    by_cases z : a2 = 144
    · subst z
      have hb : b2 < 20 := by unfold lvR at hl; omega
      show shI J 144 sp n 144 b2 = shI I 3 sp n 3 b2
      unfold shI
      by_cases y : sp < b2 ∧ b2 ≤ n
      · rw [if_pos ⟨rfl, y⟩, if_pos ⟨rfl, y⟩]
        exact h.st (by omega)
      · rw [if_neg (fun x => y x.2), if_neg (fun x => y x.2)]
        exact h.st hb
    · rw [shI_ne z]
      have e5 : (mpR a2 b2).1 ≠ 3 := fun y => z (by
        have := (mp_all hm hl).2.1
        rw [y] at this
        rw [← this]
        rfl)
      rw [e0 _ _ e5]
      exact h.1 a2 b2 hl
  · rw [shI_ne (by decide), e0 _ _ (by decide)]
    exact h.2.1 p hp
  · rw [shI_ne (by decide), e0 _ _ (by unfold dyI; omega)]
    exact h.2.2.1 p t2 hp ht2
  · rw [e2] at hp
    rw [shI_ne (by decide), e0 _ _ (by unfold dyI; omega)]
    exact h.2.2.2 p t2 hp ht2
/-- one scene more on both sides -/
theorem Cr_more {I J : m_I} {n : Nat} (hn : vm I = n) (hn20 : n < 20) (h : Cr I J) (h1 : J 159 n = I (scI n) 15) (h2 : ∀ t, t < 4 → J 152 (4 * n + t) = I (waI n) t ∧ J 153 (4 * n + t) = I (leI n) t) : Cr (m_up2 I 1 3 (nI (n + 1))) (m_up2 J 143 3 (nI (n + 1))) := by
  have e1 : vm (m_up2 I 1 3 (nI (n + 1))) = n + 1 := (congrArg vN m_up2_eq).trans (vN_nI (by omega))
  have e2 : vlc (m_up2 I 1 3 (nI (n + 1))) = vlc I := congrArg vN (m_up2_ne (by decide))
  refine ⟨fun a b hl => ?_, fun p hp => ?_, fun p t2 hp ht2 => ?_, fun p t2 hp ht2 => ?_⟩
  · rw [e1] at hl
    by_cases z : a = 143 ∧ b = 3
    · rw [z.1, z.2, m_up2_eq]
      exact m_up2_eq.symm
    · have hne : ¬ ((mpR a b).1 = 1 ∧ (mpR a b).2 = 3) := fun y => z (mp_inj (m := n + 1) (by omega) hl (a2 := 143) (b2 := 3) (by unfold lvR; omega) y.1 y.2)
      rw [m_up2_ne z, m_up2_ne hne]
      by_cases y : lvR n a b
      · exact h.1 a b (by rw [hn]; exact y)
      · have hc : (a = 159 ∧ b = n) ∨ ((a = 152 ∨ a = 153) ∧ 4 * n ≤ b ∧ b < 4 * n + 4) := by
          rcases hl with w | w | w | w | w | w | w | w | w | w | w
          · exact absurd (Or.inl w) y
          · exact absurd (Or.inr (Or.inl w)) y
          · by_cases v : b < 4 * n
            · exact absurd (Or.inr (Or.inr (Or.inl ⟨w.1, w.2.1, v⟩))) y
            · exact Or.inr ⟨by omega, by omega, by omega⟩
          · exact absurd (Or.inr (Or.inr (Or.inr (Or.inl w)))) y
          · by_cases v : b < n
            · exact absurd (Or.inr (Or.inr (Or.inr (Or.inr (Or.inl ⟨w.1, v⟩))))) y
            · exact Or.inl ⟨w.1, by omega⟩
          · exact absurd (Or.inr (Or.inr (Or.inr (Or.inr (Or.inr (Or.inl w)))))) y
          · exact absurd (Or.inr (Or.inr (Or.inr (Or.inr (Or.inr (Or.inr (Or.inl w))))))) y
          · exact absurd (Or.inr (Or.inr (Or.inr (Or.inr (Or.inr (Or.inr (Or.inr (Or.inl w)))))))) y
          · exact absurd (Or.inr (Or.inr (Or.inr (Or.inr (Or.inr (Or.inr (Or.inr (Or.inr (Or.inl w))))))))) y
          · exact absurd (Or.inr (Or.inr (Or.inr (Or.inr (Or.inr (Or.inr (Or.inr (Or.inr (Or.inr (Or.inl w)))))))))) y
          · exact absurd (Or.inr (Or.inr (Or.inr (Or.inr (Or.inr (Or.inr (Or.inr (Or.inr (Or.inr (Or.inr w)))))))))) y
        rcases hc with ⟨rfl, rfl⟩ | ⟨rfl | rfl, y2, y3⟩
        · exact h1
        · have e := (h2 (b - 4 * n) (by omega)).1
          rw [show 4 * n + (b - 4 * n) = b by omega] at e
          rw [e]
          show _ = I (waI (b / 4)) (b % 4)
          rw [show b / 4 = n by omega, show b % 4 = b - 4 * n by omega]
        · have e := (h2 (b - 4 * n) (by omega)).2
          rw [show 4 * n + (b - 4 * n) = b by omega] at e
          rw [e]
          show _ = I (leI (b / 4)) (b % 4)
          rw [show b / 4 = n by omega, show b % 4 = b - 4 * n by omega]
  · rw [m_up2_ne (by omega), m_up2_ne (by decide)]
    exact h.2.1 p hp
  · rw [m_up2_ne (by omega), m_up2_ne (by unfold dyI; omega)]
    exact h.2.2.1 p t2 hp ht2
  · rw [e2] at hp
    rw [m_up2_ne (by omega), m_up2_ne (by unfold dyI; omega)]
    exact h.2.2.2 p t2 hp ht2
/-- .. the same of the reference's: slots of the new one that nothing was told of -/
theorem Cr_new {I J J2 : m_I} (hm : vm I ≤ 20) (h : Cr I J) (h1 : ∀ a b, ¬ (a = 159 ∧ b = vm I) → ¬ ((a = 152 ∨ a = 153) ∧ 4 * vm I ≤ b) → J2 a b = J a b) : Cr I J2 := Cr_cong hm h (fun _ _ _ => rfl) (fun a b z => h1 a b (by unfold lvR at z; omega) (by unfold lvR at z; omega)) rfl (fun _ _ => ⟨rfl, rfl⟩) (fun p => ⟨h1 _ _ (by omega) (by omega), h1 _ _ (by omega) (by omega), h1 _ _ (by omega) (by omega)⟩)
/-- looks of the scene n told as none, t things of it -/
def wlR (J : m_I) (n t : Nat) : m_I := fun a b => if (a = 152 ∨ a = 153) ∧ 4 * n ≤ b ∧ b < 4 * n + t then -1 else J a b
theorem wlR_0 (J : m_I) (n : Nat) : wlR J n 0 = J := by
  funext a b
  unfold wlR
  rw [if_neg (by omega)]
theorem wlR_step (J : m_I) (n t : Nat) : m_up2 (m_up2 (wlR J n t) 152 (4 * n + t) (-1)) 153 (4 * n + t) (-1) = wlR J n (t + 1) := by
  funext a b
  unfold m_up2 wlR
  by_cases h1 : a = 153 ∧ b = 4 * n + t
  · rw [if_pos h1, if_pos (by omega)]
  · rw [if_neg h1]
    by_cases h2 : a = 152 ∧ b = 4 * n + t
    · rw [if_pos h2, if_pos (by omega)]
    · rw [if_neg h2]
      by_cases h3 : (a = 152 ∨ a = 153) ∧ 4 * n ≤ b ∧ b < 4 * n + t
      · rw [if_pos h3, if_pos (by omega)]
      · rw [if_neg h3, if_neg (by omega)]
theorem wlR_ne {J : m_I} {n t a b : Nat} (h : a ≠ 152 ∧ a ≠ 153) : wlR J n t a b = J a b := if_neg (by omega)
theorem nI_nm1 {j : Nat} (h : j < 1000) : nI j ≠ -1 := fun z => by
  have e := congrArg vN z
  rw [vN_nI (by omega)] at e
  have : vN (-1) = 4294967295 := by decide
  omega
theorem pu1_lt {w : Nat → Nat} {n a : Nat} (hw : ∀ k, k < n → w k < n) (ha : a ≤ n) : ∀ k, k < n + 1 → pu1 w n a k < n + 1 := by
  intro k hk
  unfold pu1
  by_cases z : k = a
  · rw [if_pos z]; omega
  · rw [if_neg z]
    by_cases y : a < k
    · rw [if_pos y]
      have := hw (k - 1) (by omega)
      omega
    · rw [if_neg y]
      have := hw k (by omega)
      omega
theorem pu1_inj {w : Nat → Nat} {n a : Nat} (hw : ∀ k, k < n → w k < n) (hx : ∀ i j, i < n → j < n → w i = w j → i = j) (ha : a ≤ n) : ∀ i j, i < n + 1 → j < n + 1 → pu1 w n a i = pu1 w n a j → i = j := by
  intro i j hi hj e
  unfold pu1 at e
  by_cases z : i = a
  · rw [if_pos z] at e
    by_cases y : j = a
    · omega
    · rw [if_neg y] at e
      by_cases x : a < j
      · rw [if_pos x] at e
        have := hw (j - 1) (by omega)
        omega
      · rw [if_neg x] at e
        have := hw j (by omega)
        omega
  · rw [if_neg z] at e
    by_cases y : j = a
    · rw [if_pos y] at e
      by_cases x : a < i
      · rw [if_pos x] at e
        have := hw (i - 1) (by omega)
        omega
      · rw [if_neg x] at e
        have := hw i (by omega)
        omega
    · rw [if_neg y] at e
      by_cases x : a < i
      · rw [if_pos x] at e
        by_cases v : a < j
        · rw [if_pos v] at e
          have := hx (i - 1) (j - 1) (by omega) (by omega) e
          omega
        · rw [if_neg v] at e
          have := hx (i - 1) j (by omega) (by omega) e
          omega
      · rw [if_neg x] at e
        by_cases v : a < j
        · rw [if_pos v] at e
          have := hx i (j - 1) (by omega) (by omega) e
          omega
        · rw [if_neg v] at e
          exact hx i j (by omega) (by omega) e
/-- what a scene's making keeps -/
theorem Iv_scene {c n sp p : Nat} {I I1 : m_I} (hI : Iv c I) (hn : vm I = n) (hn20 : n < 20) (hsp : sp ≤ n) (hp : p < vlc I) (g1 : I1 1 3 = nI (n + 1)) (g2 : ∀ k, k < n + 1 → vo I1 k = pu1 (vo I) n sp k) (g3 : I1 (scI n) 0 = nI p) (g4 : vN (I1 (scI n) 3) ≤ 32) (g5 : vN (I1 (scI n) 7) ≤ 26) (hf : ∀ a b, a ≠ 3 → ¬ (a = 1 ∧ b = 3) → ¬ (a = scI n ∧ (b = 0 ∨ b = 1 ∨ b = 2 ∨ b = 3 ∨ b = 6 ∨ b = 7)) → I1 a b = I a b) : Iv (c + 1) I1 := by
  obtain ⟨h1, h2, h3, h4, h5, h6, h7, h8, h9, h10, h11, h12⟩ := hI
  have e1 : vm I1 = n + 1 := (congrArg vN g1).trans (vN_nI (by omega))
  have el : I1 69 2 = I 69 2 := hf _ _ (by omega) (by omega) (by unfold scI; omega)
  have e2 : vlc I1 = vlc I := congrArg vN el
  have ep : I1 65 4 = I 65 4 := hf _ _ (by omega) (by omega) (by unfold scI; omega)
  have es : ∀ s b, (b = 4 ∨ b = 5 ∨ b = 11 ∨ b = 12 ∨ b = 14 ∨ b = 15) → I1 (scI s) b = I (scI s) b := fun s b hb => hf _ _ (by unfold scI; omega) (by unfold scI; omega) (by unfold scI; omega)
  have es2 : ∀ s b, s ≠ n → I1 (scI s) b = I (scI s) b := fun s b hs => hf _ _ (by unfold scI; omega) (by unfold scI; omega) (by unfold scI; omega)
  have ew : ∀ s t, I1 (waI s) t = I (waI s) t ∧ I1 (leI s) t = I (leI s) t := fun s t => ⟨hf _ _ (by unfold waI; omega) (by unfold waI; omega) (by unfold waI scI; omega), hf _ _ (by unfold leI; omega) (by unfold leI; omega) (by unfold leI scI; omega)⟩
  have ed : ∀ t b, I1 (dyI t) b = I (dyI t) b := fun t b => hf _ _ (by unfold dyI; omega) (by unfold dyI; omega) (by
    intro z
    unfold dyI scI at z
    omega)
  have er : ∀ t b, t < 30 → I1 (rwI t) b = I (rwI t) b := fun t b ht => hf _ _ (by unfold rwI; omega) (by unfold rwI; omega) (by
    intro z
    unfold rwI scI at z
    omega)
  have h6p := h2.2.1
  have h5' := h5
  unfold i5 at h5'
  rw [hn] at h5'
  refine ⟨?_, i2_c h2 ep el (hf _ _ (by omega) (by omega) (by unfold scI; omega)), i3_c h3 ep (fun s hs => es s 4 (by omega)), ?_, ?_, ?_, ?_, ?_, ?_, i10_c h10 el (fun t ht => ed t 4), i11_c h11 (fun t ht => ed t 0) (fun k _ => hf _ _ (by omega) (by omega) (by unfold scI; omega)), i12_c h12 (by omega) (hf _ _ (by omega) (by omega) (by unfold scI; omega)) (hf _ _ (by omega) (by omega) (by unfold scI; omega))⟩
  · refine Vw_mk (m := n + 1) (n := vn I) (w := vw I) g1 (by omega) (fun t ht => ⟨(ed t 6).trans (nI_vN _).symm, h1.2.1 t ht⟩) (fun t j ht hj => ?_) h1.2.2.2.1 (fun s hs => ?_) (fun s hs => ?_)
    · obtain ⟨a, b⟩ := h1.2.2.1 t j ht hj
      exact ⟨(er t j ht).trans (nI_vN _).symm, by omega, (es _ 15 (by omega)).trans b⟩
    · rw [es s 15 (by omega)]
      by_cases z : s = n
      · exact Or.inl (by rw [z]; exact (h7 n (by omega) (by omega)).2.1)
      · exact h1.2.2.2.2.1 s (by omega)
    · by_cases z : s = n
      · unfold vp
        rw [z, g3, vN_nI (by omega)]
        omega
      · unfold vp
        rw [es2 s 0 z]
        exact h1.2.2.2.2.2 s (by omega)
  · intro s hs
    rw [e1] at hs
    rw [e2]
    unfold vp
    by_cases z : s = n
    · rw [z, g3, vN_nI (by omega)]
      exact hp
    · rw [es2 s 0 z]
      exact h4 s (by omega)
  · unfold i5
    rw [e1]
    refine ⟨fun k hk => ?_, fun i j hi hj e => ?_⟩
    · rw [g2 k hk]
      exact pu1_lt h5'.1 hsp k hk
    · rw [g2 i hi, g2 j hj] at e
      exact pu1_inj h5'.1 h5'.2 hsp i j hi hj e
  · intro s hs
    rw [es s 14 (by omega)]
    obtain ⟨a, b, d⟩ := h6 s hs
    by_cases z : s = n
    · subst z
      exact ⟨g5, g4, d⟩
    · rw [es2 s 7 z, es2 s 3 z]
      exact ⟨a, b, d⟩
  · intro s hs hs2
    rw [e1] at hs2
    rw [es2 s 7 (by omega), es2 s 15 (by omega), es2 s 12 (by omega), es2 s 11 (by omega)]
    obtain ⟨a, b, d, e, f⟩ := h7 s hs (by omega)
    refine ⟨a, b, d, e, fun t ht => ?_⟩
    rw [(ew s t).1, (ew s t).2]
    exact f t ht
  · intro s hs b hb hb2
    rw [e1] at hb
    rw [es s 5 (by omega)]
    exact h8 s hs b (by omega) hb2
  · intro s hs z
    rw [e1] at hs
    rw [es s 11 (by omega)] at z
    rw [es s 15 (by omega)]
    by_cases y : s = n
    · exact absurd (by rw [y]; exact (h7 n (by omega) (by omega)).2.2.2.1) z
    · exact h9 s (by omega) z
/-- the reference with the scene n, its place in the story sp -/
def snR (J : m_I) (n sp : Nat) (x1 x2 x3 x4 : Int32) : m_I := m_up2 (m_up2 (m_up2 (m_up2 (m_up2 (shI J 144 sp n) 144 sp (nI n)) 147 n x1) 148 n x2) 149 n x3) 150 n x4
def ssR (J : m_I) (n sp : Nat) (x1 x2 x3 x4 : Int32) : m_I := m_up2 (wlR (m_up2 (snR J n sp x1 x2 x3 x4) 159 n (-1)) n 4) 143 3 (nI (n + 1))
theorem snR_ne {J : m_I} {n sp a b : Nat} {x1 x2 x3 x4 : Int32} (h : a ≠ 144 ∧ a ≠ 147 ∧ a ≠ 148 ∧ a ≠ 149 ∧ a ≠ 150) : snR J n sp x1 x2 x3 x4 a b = J a b := by
  unfold snR
  exact (m_up2_ne (by omega)).trans ((m_up2_ne (by omega)).trans ((m_up2_ne (by omega)).trans ((m_up2_ne (by omega)).trans ((m_up2_ne (by omega)).trans (shI_ne h.1)))))
theorem ssR_ne {J : m_I} {n sp a b : Nat} {x1 x2 x3 x4 : Int32} (h : a ≠ 144 ∧ a ≠ 147 ∧ a ≠ 148 ∧ a ≠ 149 ∧ a ≠ 150) (h2 : a ≠ 152 ∧ a ≠ 153 ∧ a ≠ 159) (h3 : ¬ (a = 143 ∧ b = 3)) : ssR J n sp x1 x2 x3 x4 a b = J a b := (m_up2_ne h3).trans ((wlR_ne ⟨h2.1, h2.2.1⟩).trans ((m_up2_ne (by omega)).trans (snR_ne h)))
theorem r_scene {S : m_S} {J J2 : m_I} {lg : Int64} {d n a p : Nat} {b x5 v6 : Int32} {c3 c4 : Bool} (hd : 4 ≤ d) (hm : J 143 3 = nI n) (hn : n < 20) (ha : a ≤ n) (hend : (J 143 2 = 0 ∧ J2 = ssR J n a (nI p) (bi c3) (bi c4) x5) ∨ (¬ J 143 2 = 0 ∧ ∀ d, 2 ≤ d → m_R S M_X11_letter d [.ref 143, .int (nI n)] (hh (ssR J n a (nI p) (bi c3) (bi c4) x5) lg) none (hh J2 lg))) : m_W S (M_X11_scene, d, fun w9 g => w9 = some (.int (nI n)) ∧ g = hh J2 lg, fun _ _ => False) 93 [some (.ref 143), some (.int b), some (.int (nI p)), some (.int (bi c3)), some (.int (bi c4)), some (.int x5), some (.int v6), some (.int (nI a)), none, none] [] (hh J lg) 0 0 := by
  have z3 := bi_01 c3
  have z4 := bi_01 c4
  obtain ⟨K, hK⟩ : ∃ K, K = m_up2 (snR J n a (nI p) (bi c3) (bi c4) x5) 159 n (-1) := ⟨_, rfl⟩
  have hK1 : ∀ b, K 143 b = J 143 b := fun b => by rw [hK]; exact (m_up2_ne (by omega)).trans (snR_ne (by omega))
  have loopt : ∀ (q t : Nat), t ≤ 4 → 4 - t < q → m_W S (M_X11_scene, d, fun w9 g => w9 = some (.int (nI n)) ∧ g = hh J2 lg, fun _ _ => False) 188 [some (.ref 143), some (.int b), some (.int (nI p)), some (.int (bi c3)), some (.int (bi c4)), some (.int x5), some (.int v6), some (.int (nI a)), some (.int (nI n)), some (.int (nI t))] [] (hh (wlR K n t) lg) 0 0 := by
    intro q
    induction q with
    | zero => intro t _ h; omega
    | succ q ih =>
      intro t ht hq
      refine ms_iload dX11_scene_188 rfl ?_
      refine ms_iconst (v := nI 4) dX11_scene_190 (by decide) ?_
      refine n_icmp_ge (tgt := 226) dX11_scene_191 (by decide) (by omega) (by omega) (fun c191 => ?_) (fun c191 => ?_)
      · obtain rfl : t = 4 := by omega
        have e1 : wlR K n 4 143 3 = nI n := (wlR_ne (by omega)).trans ((hK1 3).trans hm)
        have e2 : m_up2 (wlR K n 4) 143 3 (nI (n + 1)) 143 2 = J 143 2 := (m_up2_ne (by omega)).trans ((wlR_ne (by omega)).trans (hK1 2))
        have e3 : m_up2 (wlR K n 4) 143 3 (nI (n + 1)) = ssR J n a (nI p) (bi c3) (bi c4) x5 := by rw [hK]; rfl
        rcases hend with ⟨g1, g2⟩ | ⟨g1, g2⟩
        · rw [← e3] at g2
          refine ms_aload_n dX11_scene_226 rfl ?_
          refine ms_dup dX11_scene_227 rfl ?_
          refine q_geti dX11_scene_228 fX11_114 (by rw [kd_11_3]; decide) (by first | decide | exact lt_sc (by omega) | exact lt_dy (by omega) | exact lt_rw (by omega) | exact lt_wa (by omega) | exact lt_le (by omega)) (by first | rfl | rw [sh_sc (by omega)] | rw [sh_dy (by omega)]) e1 ?_
          refine ms_iconst (v := nI 1) dX11_scene_231 (by decide) ?_
          refine n_iadd dX11_scene_232 ?_
          refine q_puti dX11_scene_233 fX11_114 pX11_11_3 kd_11_3 (by first | decide | exact lt_sc (by omega) | exact lt_dy (by omega) | exact lt_rw (by omega) | exact lt_wa (by omega) | exact lt_le (by omega)) (by first | rfl | rw [sh_sc (by omega)] | rw [sh_dy (by omega)]) ?_
          refine ms_aload_n dX11_scene_236 rfl ?_
          refine q_geti dX11_scene_237 fX11_141 (by rw [kd_11_2]; decide) (by first | decide | exact lt_sc (by omega) | exact lt_dy (by omega) | exact lt_rw (by omega) | exact lt_wa (by omega) | exact lt_le (by omega)) (by first | rfl | rw [sh_sc (by omega)] | rw [sh_dy (by omega)]) e2 ?_
          refine ms_if_eq (tgt := 249) dX11_scene_240 (by decide) (fun c240 => ?_) (fun c240 => absurd c240 (fun z => z g1))
          refine ms_iload dX11_scene_249 rfl ?_
          refine ms_iret dX11_scene_251 rfl rfl ⟨?_, ?_⟩
          · rfl
          · rw [g2]
        · rw [← e3] at g2
          refine ms_aload_n dX11_scene_226 rfl ?_
          refine ms_dup dX11_scene_227 rfl ?_
          refine q_geti dX11_scene_228 fX11_114 (by rw [kd_11_3]; decide) (by first | decide | exact lt_sc (by omega) | exact lt_dy (by omega) | exact lt_rw (by omega) | exact lt_wa (by omega) | exact lt_le (by omega)) (by first | rfl | rw [sh_sc (by omega)] | rw [sh_dy (by omega)]) e1 ?_
          refine ms_iconst (v := nI 1) dX11_scene_231 (by decide) ?_
          refine n_iadd dX11_scene_232 ?_
          refine q_puti dX11_scene_233 fX11_114 pX11_11_3 kd_11_3 (by first | decide | exact lt_sc (by omega) | exact lt_dy (by omega) | exact lt_rw (by omega) | exact lt_wa (by omega) | exact lt_le (by omega)) (by first | rfl | rw [sh_sc (by omega)] | rw [sh_dy (by omega)]) ?_
          refine ms_aload_n dX11_scene_236 rfl ?_
          refine q_geti dX11_scene_237 fX11_141 (by rw [kd_11_2]; decide) (by first | decide | exact lt_sc (by omega) | exact lt_dy (by omega) | exact lt_rw (by omega) | exact lt_wa (by omega) | exact lt_le (by omega)) (by first | rfl | rw [sh_sc (by omega)] | rw [sh_dy (by omega)]) e2 ?_
          refine ms_if_eq (tgt := 249) dX11_scene_240 (by decide) (fun c240 => absurd c240 (g1)) (fun c240 => ?_)
          refine ms_aload_n dX11_scene_243 rfl ?_
          refine ms_iload dX11_scene_244 rfl ?_
          refine qRV1 dX11_scene_246 kX11_145 (by show _ < 178; first | decide | exact lt_sc (by omega) | exact lt_dy (by omega)) (by show (sh0 _).1 = _; first | rfl | rw [sh_sc (by omega)] | rw [sh_dy (by omega)]) (d := d - 1) (by show d - 1 + 1 ≤ d; omega) rfl (Nat.le_of_ble_eq_true rfl) (Nat.le_of_ble_eq_true rfl) (g2 _ (by omega)) rfl ?_
          refine ms_iload dX11_scene_249 rfl ?_
          refine ms_iret dX11_scene_251 rfl rfl ⟨?_, ?_⟩
          · rfl
          · rfl
      · have h9 := ih (t + 1) (by omega) (by omega)
        rw [← wlR_step] at h9
        refine ms_aload_n dX11_scene_194 rfl ?_
        refine q_getr dX11_scene_195 fX11_35 kd_11_12 (by first | decide | exact lt_sc (by omega) | exact lt_dy (by omega) | exact lt_rw (by omega) | exact lt_wa (by omega) | exact lt_le (by omega)) (by first | rfl | rw [sh_sc (by omega)] | rw [sh_dy (by omega)]) (by first | rfl | exact rf_wa (by omega) | exact rf_le (by omega) | exact rf_rw (by omega)) ?_
        refine ms_iconst (v := nI 4) dX11_scene_198 (by decide) ?_
        refine ms_iload dX11_scene_199 rfl ?_
        refine n_imul dX11_scene_201 ?_
        refine ms_iload dX11_scene_202 rfl ?_
        refine n_iadd dX11_scene_204 ?_
        refine ms_iconst (v := -1) dX11_scene_205 (by decide) ?_
        refine q_iast dX11_scene_206 (by first | decide | exact lt_sc (by omega) | exact lt_dy (by omega) | exact lt_rw (by omega) | exact lt_wa (by omega) | exact lt_le (by omega)) (by first | rfl | exact sh_rw (by omega) | exact sh_wa (by omega) | exact sh_le (by omega)) (by omega) (by decide) ?_
        refine ms_aload_n dX11_scene_207 rfl ?_
        refine q_getr dX11_scene_208 fX11_38 kd_11_13 (by first | decide | exact lt_sc (by omega) | exact lt_dy (by omega) | exact lt_rw (by omega) | exact lt_wa (by omega) | exact lt_le (by omega)) (by first | rfl | rw [sh_sc (by omega)] | rw [sh_dy (by omega)]) (by first | rfl | exact rf_wa (by omega) | exact rf_le (by omega) | exact rf_rw (by omega)) ?_
        refine ms_iconst (v := nI 4) dX11_scene_211 (by decide) ?_
        refine ms_iload dX11_scene_212 rfl ?_
        refine n_imul dX11_scene_214 ?_
        refine ms_iload dX11_scene_215 rfl ?_
        refine n_iadd dX11_scene_217 ?_
        refine ms_iconst (v := -1) dX11_scene_218 (by decide) ?_
        refine q_iast dX11_scene_219 (by first | decide | exact lt_sc (by omega) | exact lt_dy (by omega) | exact lt_rw (by omega) | exact lt_wa (by omega) | exact lt_le (by omega)) (by first | rfl | exact sh_rw (by omega) | exact sh_wa (by omega) | exact sh_le (by omega)) (by omega) (by decide) ?_
        refine n_iinc dX11_scene_220 rfl ?_
        refine ms_goto (tgt := 188) dX11_scene_223 (by decide) ?_
        exact h9
  have loop : ∀ i, a ≤ i → i ≤ n → m_W S (M_X11_scene, d, fun w9 g => w9 = some (.int (nI n)) ∧ g = hh J2 lg, fun _ _ => False) 99 [some (.ref 143), some (.int b), some (.int (nI p)), some (.int (bi c3)), some (.int (bi c4)), some (.int x5), some (.int v6), some (.int (nI a)), some (.int (nI i)), none] [] (hh (shI J 144 i n) lg) 0 0 := by
    intro i
    have hm' : ∀ i, shI J 144 i n 143 3 = nI n := fun i => (shI_ne (by decide)).trans hm
    have fin : m_W S (M_X11_scene, d, fun w9 g => w9 = some (.int (nI n)) ∧ g = hh J2 lg, fun _ _ => False) 128 [some (.ref 143), some (.int b), some (.int (nI p)), some (.int (bi c3)), some (.int (bi c4)), some (.int x5), some (.int v6), some (.int (nI a)), some (.int (nI a)), none] [] (hh (shI J 144 a n) lg) 0 0 := by
      have hma := hm' a
      have h9 := loopt 5 0 (by omega) (by omega)
      rw [wlR_0, hK] at h9
      refine ms_aload_n dX11_scene_128 rfl ?_
      refine q_geti dX11_scene_129 fX11_114 (by rw [kd_11_3]; decide) (by first | decide | exact lt_sc (by omega) | exact lt_dy (by omega) | exact lt_rw (by omega) | exact lt_wa (by omega) | exact lt_le (by omega)) (by first | rfl | rw [sh_sc (by omega)] | rw [sh_dy (by omega)]) hma ?_
      refine ms_istore dX11_scene_132 (Nat.le_of_ble_eq_true rfl) ?_
      refine ms_aload_n dX11_scene_134 rfl ?_
      refine q_getr dX11_scene_135 fX11_7 kd_11_4 (by first | decide | exact lt_sc (by omega) | exact lt_dy (by omega) | exact lt_rw (by omega) | exact lt_wa (by omega) | exact lt_le (by omega)) (by first | rfl | rw [sh_sc (by omega)] | rw [sh_dy (by omega)]) (by first | rfl | exact rf_wa (by omega) | exact rf_le (by omega) | exact rf_rw (by omega)) ?_
      refine ms_iload dX11_scene_138 rfl ?_
      refine ms_iload dX11_scene_140 rfl ?_
      refine q_iast dX11_scene_142 (by first | decide | exact lt_sc (by omega) | exact lt_dy (by omega) | exact lt_rw (by omega) | exact lt_wa (by omega) | exact lt_le (by omega)) (by first | rfl | exact sh_rw (by omega) | exact sh_wa (by omega) | exact sh_le (by omega)) (by omega) (by decide) ?_
      refine ms_aload_n dX11_scene_143 rfl ?_
      refine q_getr dX11_scene_144 fX11_19 kd_11_7 (by first | decide | exact lt_sc (by omega) | exact lt_dy (by omega) | exact lt_rw (by omega) | exact lt_wa (by omega) | exact lt_le (by omega)) (by first | rfl | rw [sh_sc (by omega)] | rw [sh_dy (by omega)]) (by first | rfl | exact rf_wa (by omega) | exact rf_le (by omega) | exact rf_rw (by omega)) ?_
      refine ms_iload dX11_scene_147 rfl ?_
      refine ms_iload_n dX11_scene_149 rfl ?_
      refine q_iast dX11_scene_150 (by first | decide | exact lt_sc (by omega) | exact lt_dy (by omega) | exact lt_rw (by omega) | exact lt_wa (by omega) | exact lt_le (by omega)) (by first | rfl | exact sh_rw (by omega) | exact sh_wa (by omega) | exact sh_le (by omega)) (by omega) (by decide) ?_
      refine ms_aload_n dX11_scene_151 rfl ?_
      refine q_getr dX11_scene_152 fX11_22 kd_11_8 (by first | decide | exact lt_sc (by omega) | exact lt_dy (by omega) | exact lt_rw (by omega) | exact lt_wa (by omega) | exact lt_le (by omega)) (by first | rfl | rw [sh_sc (by omega)] | rw [sh_dy (by omega)]) (by first | rfl | exact rf_wa (by omega) | exact rf_le (by omega) | exact rf_rw (by omega)) ?_
      refine ms_iload dX11_scene_155 rfl ?_
      refine ms_iload_n dX11_scene_157 rfl ?_
      refine q_zast dX11_scene_158 (by first | decide | exact lt_sc (by omega) | exact lt_dy (by omega) | exact lt_rw (by omega) | exact lt_wa (by omega) | exact lt_le (by omega)) (by first | rfl | exact sh_rw (by omega) | exact sh_wa (by omega) | exact sh_le (by omega)) (by omega) (by decide) (by first | exact Or.inl (by decide) | exact Or.inr (by decide) | assumption | exact bi_01 _) ?_
      refine ms_aload_n dX11_scene_159 rfl ?_
      refine q_getr dX11_scene_160 fX11_26 kd_11_9 (by first | decide | exact lt_sc (by omega) | exact lt_dy (by omega) | exact lt_rw (by omega) | exact lt_wa (by omega) | exact lt_le (by omega)) (by first | rfl | rw [sh_sc (by omega)] | rw [sh_dy (by omega)]) (by first | rfl | exact rf_wa (by omega) | exact rf_le (by omega) | exact rf_rw (by omega)) ?_
      refine ms_iload dX11_scene_163 rfl ?_
      refine ms_iload dX11_scene_165 rfl ?_
      refine q_zast dX11_scene_167 (by first | decide | exact lt_sc (by omega) | exact lt_dy (by omega) | exact lt_rw (by omega) | exact lt_wa (by omega) | exact lt_le (by omega)) (by first | rfl | exact sh_rw (by omega) | exact sh_wa (by omega) | exact sh_le (by omega)) (by omega) (by decide) (by first | exact Or.inl (by decide) | exact Or.inr (by decide) | assumption | exact bi_01 _) ?_
      refine ms_aload_n dX11_scene_168 rfl ?_
      refine q_getr dX11_scene_169 fX11_29 kd_11_10 (by first | decide | exact lt_sc (by omega) | exact lt_dy (by omega) | exact lt_rw (by omega) | exact lt_wa (by omega) | exact lt_le (by omega)) (by first | rfl | rw [sh_sc (by omega)] | rw [sh_dy (by omega)]) (by first | rfl | exact rf_wa (by omega) | exact rf_le (by omega) | exact rf_rw (by omega)) ?_
      refine ms_iload dX11_scene_172 rfl ?_
      refine ms_iload dX11_scene_174 rfl ?_
      refine q_iast dX11_scene_176 (by first | decide | exact lt_sc (by omega) | exact lt_dy (by omega) | exact lt_rw (by omega) | exact lt_wa (by omega) | exact lt_le (by omega)) (by first | rfl | exact sh_rw (by omega) | exact sh_wa (by omega) | exact sh_le (by omega)) (by omega) (by decide) ?_
      refine ms_aload_n dX11_scene_177 rfl ?_
      refine q_getr dX11_scene_178 fX11_56 kd_11_19 (by first | decide | exact lt_sc (by omega) | exact lt_dy (by omega) | exact lt_rw (by omega) | exact lt_wa (by omega) | exact lt_le (by omega)) (by first | rfl | rw [sh_sc (by omega)] | rw [sh_dy (by omega)]) (by first | rfl | exact rf_wa (by omega) | exact rf_le (by omega) | exact rf_rw (by omega)) ?_
      refine ms_iload dX11_scene_181 rfl ?_
      refine ms_iconst (v := -1) dX11_scene_183 (by decide) ?_
      refine q_iast dX11_scene_184 (by first | decide | exact lt_sc (by omega) | exact lt_dy (by omega) | exact lt_rw (by omega) | exact lt_wa (by omega) | exact lt_le (by omega)) (by first | rfl | exact sh_rw (by omega) | exact sh_wa (by omega) | exact sh_le (by omega)) (by omega) (by decide) ?_
      refine ms_iconst (v := nI 0) dX11_scene_185 (by decide) ?_
      refine ms_istore dX11_scene_186 (Nat.le_of_ble_eq_true rfl) ?_
      exact h9
    induction i with
    | zero =>
      intro h1 h2
      obtain rfl : a = 0 := by omega
      refine ms_iload dX11_scene_99 rfl ?_
      refine ms_iload dX11_scene_101 rfl ?_
      refine n_icmp_le (tgt := 128) dX11_scene_103 (by decide) (by omega) (by omega) (fun c103 => ?_) (fun c103 => ?_)
      · exact fin
      · omega
    | succ i ih =>
      intro h1 h2
      refine ms_iload dX11_scene_99 rfl ?_
      refine ms_iload dX11_scene_101 rfl ?_
      refine n_icmp_le (tgt := 128) dX11_scene_103 (by decide) (by omega) (by omega) (fun c103 => ?_) (fun c103 => ?_)
      · obtain rfl : a = i + 1 := by omega
        exact fin
      · refine ms_aload_n dX11_scene_106 rfl ?_
        refine q_getr dX11_scene_107 fX11_7 kd_11_4 (by first | decide | exact lt_sc (by omega) | exact lt_dy (by omega) | exact lt_rw (by omega) | exact lt_wa (by omega) | exact lt_le (by omega)) (by first | rfl | rw [sh_sc (by omega)] | rw [sh_dy (by omega)]) (by first | rfl | exact rf_wa (by omega) | exact rf_le (by omega) | exact rf_rw (by omega)) ?_
        refine ms_iload dX11_scene_110 rfl ?_
        refine ms_aload_n dX11_scene_112 rfl ?_
        refine q_getr dX11_scene_113 fX11_7 kd_11_4 (by first | decide | exact lt_sc (by omega) | exact lt_dy (by omega) | exact lt_rw (by omega) | exact lt_wa (by omega) | exact lt_le (by omega)) (by first | rfl | rw [sh_sc (by omega)] | rw [sh_dy (by omega)]) (by first | rfl | exact rf_wa (by omega) | exact rf_le (by omega) | exact rf_rw (by omega)) ?_
        refine ms_iload dX11_scene_116 rfl ?_
        refine ms_iconst (v := nI 1) dX11_scene_118 (by decide) ?_
        refine ms_isub dX11_scene_119 ?_
        rw [show nI (i + 1) - nI 1 = nI i from pk_sub (by omega)]
        refine q_iald dX11_scene_120 (by first | decide | exact lt_sc (by omega) | exact lt_dy (by omega) | exact lt_rw (by omega) | exact lt_wa (by omega) | exact lt_le (by omega)) (by first | rfl | exact sh_rw (by omega) | exact sh_wa (by omega) | exact sh_le (by omega)) (by omega) (by decide) rfl ?_
        refine q_iast dX11_scene_121 (by first | decide | exact lt_sc (by omega) | exact lt_dy (by omega) | exact lt_rw (by omega) | exact lt_wa (by omega) | exact lt_le (by omega)) (by first | rfl | exact sh_rw (by omega) | exact sh_wa (by omega) | exact sh_le (by omega)) (by omega) (by decide) ?_
        rw [shI_step J h2]
        refine ms_iinc dX11_scene_122 rfl (show nI (i + 1) + Int32.ofInt (-1) = nI i from (pdec (i + 1)).trans (pk_sub (by omega))) ?_
        refine ms_goto (tgt := 99) dX11_scene_125 (by decide) ?_
        exact ih (by omega) (by omega)
  refine ms_aload_n dX11_scene_93 rfl ?_
  refine q_geti dX11_scene_94 fX11_114 (by rw [kd_11_3]; decide) (by first | decide | exact lt_sc (by omega) | exact lt_dy (by omega) | exact lt_rw (by omega) | exact lt_wa (by omega) | exact lt_le (by omega)) (by first | rfl | rw [sh_sc (by omega)] | rw [sh_dy (by omega)]) hm ?_
  refine ms_istore dX11_scene_97 (Nat.le_of_ble_eq_true rfl) ?_
  have h9 := loop n ha (Nat.le_refl _)
  rw [shI_0] at h9
  exact h9
/-- the letter that is taken, on both sides -/
theorem nu_eq {I R : m_I} {o o2 : Nat → Nat} {sp : Nat} (h : ∀ j, j < sp → o2 j = o j ∧ R 146 (o j) = I (scI (o j)) 7 ∧ R 145 (o j) = I (scI (o j)) 6) : ∀ k, k ≤ sp → nuR R o2 k = nuC I o k := by
  intro k
  induction k with
  | zero => exact fun _ => rfl
  | succ k ih =>
    intro hk
    obtain ⟨a, b, d⟩ := h k (by omega)
    unfold nuR nuC
    rw [a, b, d, ih (by omega)]
theorem ls_eq {I R : m_I} {n p : Nat} {x : Int32} (h6 : ∀ s, s < n → vN (I (scI s) 7) ≤ 26) (hp : p < 32) (h : ∀ j, j < n → R 146 j = I (scI j) 7 ∧ R 145 j = I (scI j) 6) : anyB (lsP R n x p) (n + 1) = bt (tkC I x n) p := by
  have e := tkC_bt (x := x) h6 hp n (Nat.le_refl _)
  rcases Bool.eq_false_or_eq_true (bt (tkC I x n) p) with z | z
  · rw [z]
    obtain ⟨j, j1, j2, j3⟩ := e.mp z
    obtain ⟨a, b⟩ := h j j1
    exact anyB_t (k := j) (by omega) (decide_eq_true ⟨by omega, b.trans j2, a.trans j3⟩)
  · rw [z]
    refine anyB_f.mpr (fun k hk => decide_eq_false (fun ⟨a1, a2, a3⟩ => ?_))
    have hk2 : k < n := by omega
    obtain ⟨a, b⟩ := h k hk2
    have := e.mpr ⟨k, hk2, b.symm.trans a2, a.symm.trans a3⟩
    rw [z] at this
    cases this
/-- both sides with the new scene -/
theorem Cr_scene {I J : m_I} {n sp : Nat} {x1 x2 x3 x4 : Int32} (h : Cr I J) (hn : vm I = n) (hn20 : n < 20) (hsp : sp ≤ n) (h7 : i7 I) : Cr (m_up2 (adI (m_up2 (shI I 3 sp n) 3 sp (nI n)) n x1 x2 x3 x4) 1 3 (nI (n + 1))) (ssR J n sp x1 x2 x3 x4) := by
  have hv : ∀ (X : m_I) (a b : Nat) (x : Int32), vm X = n → a ≠ 1 → vm (m_up2 X a b x) = n := fun X a b x hX ha => (congrArg vN (m_up2_ne (by omega))).trans hX
  have c0 : Cr (shI I 3 sp n) (shI J 144 sp n) := Cr_so (by omega) h hn20
  have v0 : vm (shI I 3 sp n) = n := (congrArg vN (shI_ne (by decide))).trans hn
  have c1 := Cr_up (x := nI n) (by rw [v0]; omega) c0 (a := 144) (b := sp) (c := 3) (d := sp) (by unfold lvR; omega) rfl (by omega) (by omega)
  have v1 := hv _ 3 sp (nI n) v0 (by decide)
  have c2 := Cr_up (x := x1) (by rw [v1]; omega) c1 (a := 147) (b := n) (c := scI n) (d := 0) (by unfold lvR; omega) rfl (by unfold scI; omega) (by unfold scI; omega)
  have v2 := hv _ (scI n) 0 x1 v1 (by unfold scI; omega)
  have c3 := Cr_up (x := x2) (by rw [v2]; omega) c2 (a := 148) (b := n) (c := scI n) (d := 1) (by unfold lvR; omega) rfl (by unfold scI; omega) (by unfold scI; omega)
  have v3 := hv _ (scI n) 1 x2 v2 (by unfold scI; omega)
  have c4 := Cr_up (x := x3) (by rw [v3]; omega) c3 (a := 149) (b := n) (c := scI n) (d := 2) (by unfold lvR; omega) rfl (by unfold scI; omega) (by unfold scI; omega)
  have v4 := hv _ (scI n) 2 x3 v3 (by unfold scI; omega)
  have c5 := Cr_up (x := x4) (by rw [v4]; omega) c4 (a := 150) (b := n) (c := scI n) (d := 3) (by unfold lvR; omega) rfl (by unfold scI; omega) (by unfold scI; omega)
  have v5 := hv _ (scI n) 3 x4 v4 (by unfold scI; omega)
  obtain ⟨IA, hIA⟩ : ∃ IA, IA = adI (m_up2 (shI I 3 sp n) 3 sp (nI n)) n x1 x2 x3 x4 := ⟨_, rfl⟩
  have c5' : Cr IA (snR J n sp x1 x2 x3 x4) := by rw [hIA]; exact c5
  have v5' : vm IA = n := by rw [hIA]; exact v5
  have hne : ∀ a b, a ≠ 3 → ¬ (a = scI n ∧ b < 4) → IA a b = I a b := fun a b z1 z2 => by
    rw [hIA]
    unfold adI
    exact (m_up2_ne (by omega)).trans ((m_up2_ne (by omega)).trans ((m_up2_ne (by omega)).trans ((m_up2_ne (by omega)).trans ((m_up2_ne (by omega)).trans (shI_ne z1)))))
  rw [← hIA]
  obtain ⟨-, k2, -, -, k5⟩ := h7 n hn20 (by omega)
  have c6 : Cr IA (wlR (m_up2 (snR J n sp x1 x2 x3 x4) 159 n (-1)) n 4) := Cr_new (by omega) c5' (fun a b z1 z2 => by
    rw [v5'] at z1 z2
    unfold wlR
    rw [if_neg (by omega)]
    exact m_up2_ne z1)
  refine Cr_more v5' hn20 c6 ?_ (fun t ht => ?_)
  · rw [wlR_ne (by omega), m_up2_eq, hne _ _ (by unfold scI; omega) (by omega)]
    exact k2.symm
  · unfold wlR
    rw [if_pos (by omega), if_pos (by omega), hne _ _ (by unfold waI; omega) (by unfold waI scI; omega), hne _ _ (by unfold leI; omega) (by unfold leI scI; omega)]
    exact ⟨(k5 t ht).1.symm, (k5 t ht).2.symm⟩
theorem ad_facts {I : m_I} {n sp : Nat} {x1 x2 x3 x4 : Int32} (hn : n < 20) : adI (m_up2 (shI I 3 sp n) 3 sp (nI n)) n x1 x2 x3 x4 (scI n) 0 = x1 ∧ adI (m_up2 (shI I 3 sp n) 3 sp (nI n)) n x1 x2 x3 x4 (scI n) 3 = x4 ∧ (∀ k, k < n + 1 → vo (adI (m_up2 (shI I 3 sp n) 3 sp (nI n)) n x1 x2 x3 x4) k = pu1 (vo I) n sp k) ∧ ∀ a b, a ≠ 3 → ¬ (a = scI n ∧ b < 4) → adI (m_up2 (shI I 3 sp n) 3 sp (nI n)) n x1 x2 x3 x4 a b = I a b := by
  refine ⟨?_, m_up2_eq, fun k hk => ?_, fun a b z1 z2 => ?_⟩
  · unfold adI
    exact (m_up2_ne (by omega)).trans ((m_up2_ne (by omega)).trans ((m_up2_ne (by omega)).trans m_up2_eq))
  · unfold vo
    rw [adI_ne (Or.inl (by decide))]
    unfold pu1
    by_cases z : k = sp
    · subst z
      rw [if_pos rfl, m_up2_eq]
      exact vN_nI (by omega)
    · rw [if_neg z, m_up2_ne (fun y => z y.2)]
      by_cases y : sp < k
      · rw [if_pos y, shI_in y (by omega)]
      · rw [if_neg y, shI_lo (by omega)]
  · unfold adI
    exact (m_up2_ne (by omega)).trans ((m_up2_ne (by omega)).trans ((m_up2_ne (by omega)).trans ((m_up2_ne (by omega)).trans ((m_up2_ne (by omega)).trans (shI_ne z1)))))
theorem o_scene {S : m_S} {c : Nat} {I : m_I} (x1 x2 : Int32) (c3 c4 : Bool) (x5 : Int32) (hI : Iv c I) (hC : Cr I I) : Okc S c I M_X10_scene M_X11_scene [.ref 0, .int x1, .int x2, .int (bi c3), .int (bi c4), .int x5] [.ref 143, .int x1, .int x2, .int (bi c3), .int (bi c4), .int x5] [xI, xA, xS] := by
  have hm := hI.1.1
  have hM := Iv_Md hI
  have hL := Iv_Lc hI
  have hL2 := hL.2
  have ho := Iv_o hI
  have h5' := hI.2.2.2.2.1
  have h6' := hI.2.2.2.2.2.1
  have h7' := hI.2.2.2.2.2.2.1
  obtain ⟨n, hn⟩ : ∃ n, n = vm I := ⟨_, rfl⟩
  obtain ⟨np, hnp⟩ : ∃ np, np = vlc I := ⟨_, rfl⟩
  rw [← hn] at hm hM ho
  rw [← hnp] at hL hL2
  have z3 := bi_01 c3
  have z4 := bi_01 c4
  by_cases hb : x1 = -1 ∨ ∃ j, j < n ∧ x1 = nI j
  · rcases ix_or x2 (n := np) (by omega) with ⟨p, hp, rfl⟩ | hx
    · by_cases h5 : nI 1 ≤ x5 ∧ x5 ≤ nI 32
      · obtain ⟨sp, hsp, hsb, hpl⟩ : ∃ sp, sp ≤ n ∧ (∀ lg d', 2 ≤ d' → m_R S M_X9_spotBehind d' [.ref 1, .int x1] (hh I lg) (some (.int (nI sp))) (hh I lg)) ∧ (x1 = -1 ∧ sp = 0 ∨ ∃ j i, j < n ∧ x1 = nI j ∧ sp = i + 1 ∧ i < n ∧ I 3 i = nI j ∧ ∀ k, k < i → I 3 k ≠ nI j) := by
          rcases hb with rfl | ⟨j, hj, rfl⟩
          · exact ⟨0, Nat.zero_le _, fun lg d' _ => k_X9_spotBehind0, Or.inl ⟨rfl, rfl⟩⟩
          · obtain ⟨i, hi, he, hf⟩ := od_ix h5' (s := j) (by omega)
            have he2 : I 3 i = nI j := by rw [(ho i (by omega)).1, he]
            have hf2 : ∀ k, k < i → I 3 k ≠ nI j := fun k hk e => by
              rw [(ho k (by omega)).1] at e
              exact hf k hk ((nI_eq (by have := (ho k (by omega)).2; omega) (by omega)).mp e)
            exact ⟨i + 1, by omega, fun lg d' hd' => k_X9_spotBehind hd' hM.1 hm (by omega) (by omega) he2 hf2, Or.inr ⟨j, i, hj, rfl, rfl, by omega, he2, hf2⟩⟩
        have h26 : ∀ s, s < n → vN (I (scI s) 7) ≤ 26 := fun s hs => (h6' s (by omega)).1
        obtain ⟨q, q1, q2, q3, q4⟩ := free_let (I := I) (x := nuC I (vo I) sp) hm h26
        have hroom : ∀ lg d, 4 ≤ d → m_R S M_X9_hasRoomBehind d [.ref 1, .int x1] (hh I lg) (some (.int (bi (decide (n < 20))))) (hh I lg) := fun lg d hd => k_hasRoom hd hM.1 hm ho hsp (hsb lg) (fun _ => ⟨q, q1, q2, q3, q4⟩)
        -- where the reference puts it
        have r93 : ∀ (J J' J2 : m_I) (lg : Int64) (d : Nat), 9 ≤ d → Cr I J → Cr I J' → m_R S M_X11_goesWell (d - 1) [.ref 143, .int (nI 0)] (hh J lg) (some (.int (bi true))) (hh J' lg) → n < 20 → ((J' 143 2 = 0 ∧ J2 = ssR J' n sp (nI p) (bi c3) (bi c4) x5) ∨ (¬ J' 143 2 = 0 ∧ ∀ d, 2 ≤ d → m_R S M_X11_letter d [.ref 143, .int (nI n)] (hh (ssR J' n sp (nI p) (bi c3) (bi c4) x5) lg) none (hh J2 lg))) → m_R S M_X11_scene d [.ref 143, .int x1, .int (nI p), .int (bi c3), .int (bi c4), .int x5] (hh J lg) (some (.int (nI n))) (hh J2 lg) := by
          intro J J' J2 lg d hd hJ hC' hgw hn20 hend
          have p1 := kr_pl1 (S := S) (J := J) (lg := lg) (d := d - 1) (by omega) (hJ.lc.trans hL.1) hL2 hp
          have hjm : J 143 3 = nI n := hJ.m.trans hM.1
          have hjm' : J' 143 3 = nI n := hC'.m.trans hM.1
          have h9 : ∀ v6, m_W S (M_X11_scene, d, fun w9 g => w9 = some (.int (nI n)) ∧ g = hh J2 lg, fun _ _ => False) 93 [some (.ref 143), some (.int x1), some (.int (nI p)), some (.int (bi c3)), some (.int (bi c4)), some (.int x5), some (.int v6), some (.int (nI sp)), none, none] [] (hh J' lg) 0 0 := fun v6 => r_scene (by omega) hjm' hn20 hsp hend
          rcases hpl with ⟨rfl, rfl⟩ | ⟨j, i, hj, rfl, rfl, hi, he2, hf2⟩
          · refine ms_iload_n dX11_scene_0 rfl ?_
            refine ms_iconst (v := -1) dX11_scene_1 (by decide) ?_
            refine ms_icmp_eq (tgt := 13) dX11_scene_2 (by decide) (fun c2 => ?_) (fun c2 => absurd c2 (by decide))
            refine ms_aload_n dX11_scene_13 rfl ?_
            refine ms_iload_n dX11_scene_14 rfl ?_
            refine qRV1 dX11_scene_15 kX11_135 (by show _ < 178; first | decide | exact lt_sc (by omega) | exact lt_dy (by omega)) (by show (sh0 _).1 = _; first | rfl | rw [sh_sc (by omega)] | rw [sh_dy (by omega)]) (d := d - 1) (by show d - 1 + 1 ≤ d; omega) rfl (Nat.le_of_ble_eq_true rfl) (Nat.le_of_ble_eq_true rfl) (p1) rfl ?_
            refine ms_if_eq (tgt := 25) dX11_scene_18 (by decide) (fun c18 => absurd c18 (by decide)) (fun c18 => ?_)
            refine ms_iconst (v := nI 1) dX11_scene_21 (by decide) ?_
            refine ms_goto (tgt := 26) dX11_scene_22 (by decide) ?_
            refine ms_istore dX11_scene_26 (Nat.le_of_ble_eq_true rfl) ?_
            refine ms_aload_n dX11_scene_28 rfl ?_
            refine ms_iload dX11_scene_29 rfl ?_
            refine ms_if_ne (tgt := 38) dX11_scene_31 (by decide) (fun c31 => ?_) (fun c31 => absurd c31 (by decide))
            refine ms_iload dX11_scene_38 rfl ?_
            refine ms_iconst (v := nI 1) dX11_scene_40 (by decide) ?_
            refine ms_bipush (v := nI 32) dX11_scene_41 (by decide) ?_
            refine qRS3 dX11_scene_43 kX11_117 (d := d - 1) (by show d - 1 + 1 ≤ d; omega) rfl rfl rfl (Nat.le_of_ble_eq_true rfl) (Nat.le_of_ble_eq_true rfl) (kr_in1 h5) rfl ?_
            refine ms_if_ne (tgt := 53) dX11_scene_46 (by decide) (fun c46 => ?_) (fun c46 => absurd c46 (by decide))
            refine ms_aload_n dX11_scene_53 rfl ?_
            refine q_geti dX11_scene_54 fX11_114 (by rw [kd_11_3]; decide) (by first | decide | exact lt_sc (by omega) | exact lt_dy (by omega) | exact lt_rw (by omega) | exact lt_wa (by omega) | exact lt_le (by omega)) (by first | rfl | rw [sh_sc (by omega)] | rw [sh_dy (by omega)]) hjm ?_
            refine ms_bipush (v := nI 20) dX11_scene_57 (by decide) ?_
            refine n_icmp_ne (tgt := 66) dX11_scene_59 (by decide) (by omega) (by omega) (fun c59 => ?_) (fun c59 => absurd c59 (by omega))
            refine ms_iconst (v := nI 0) dX11_scene_66 (by decide) ?_
            refine qRV1 dX11_scene_67 kX11_138 (by show _ < 178; first | decide | exact lt_sc (by omega) | exact lt_dy (by omega)) (by show (sh0 _).1 = _; first | rfl | rw [sh_sc (by omega)] | rw [sh_dy (by omega)]) (d := d - 1) (by show d - 1 + 1 ≤ d; omega) rfl (Nat.le_of_ble_eq_true rfl) (Nat.le_of_ble_eq_true rfl) (hgw) rfl ?_
            refine ms_if_ne (tgt := 75) dX11_scene_70 (by decide) (fun c70 => ?_) (fun c70 => absurd c70 (by decide))
            refine ms_iload_n dX11_scene_75 rfl ?_
            refine ms_iconst (v := -1) dX11_scene_76 (by decide) ?_
            refine ms_icmp_ne (tgt := 84) dX11_scene_77 (by decide) (fun c77 => absurd c77 (by decide)) (fun c77 => ?_)
            refine ms_iconst (v := nI 0) dX11_scene_80 (by decide) ?_
            refine ms_goto (tgt := 91) dX11_scene_81 (by decide) ?_
            refine ms_istore dX11_scene_91 (Nat.le_of_ble_eq_true rfl) ?_
            exact h9 _
          · have hne := nI_nm1 (j := j) (by omega)
            have hsc := kr_sc1 (S := S) (J := J) (lg := lg) (d := d - 1) (by omega) hjm hm hj
            have hpi := kr_placeIn (S := S) (I := J') (lg := lg) (d := d - 1) (s := j) (a := i) (by omega) ((hC'.st (by omega)).trans he2) (fun k hk => by rw [hC'.st (by omega)]; exact hf2 k hk)
            refine ms_iload_n dX11_scene_0 rfl ?_
            refine ms_iconst (v := -1) dX11_scene_1 (by decide) ?_
            refine ms_icmp_eq (tgt := 13) dX11_scene_2 (by decide) (fun c2 => absurd c2 (hne)) (fun c2 => ?_)
            refine ms_aload_n dX11_scene_5 rfl ?_
            refine ms_iload_n dX11_scene_6 rfl ?_
            refine qRV1 dX11_scene_7 kX11_131 (by show _ < 178; first | decide | exact lt_sc (by omega) | exact lt_dy (by omega)) (by show (sh0 _).1 = _; first | rfl | rw [sh_sc (by omega)] | rw [sh_dy (by omega)]) (d := d - 1) (by show d - 1 + 1 ≤ d; omega) rfl (Nat.le_of_ble_eq_true rfl) (Nat.le_of_ble_eq_true rfl) (hsc) rfl ?_
            refine ms_if_eq (tgt := 25) dX11_scene_10 (by decide) (fun c10 => absurd c10 (by decide)) (fun c10 => ?_)
            refine ms_aload_n dX11_scene_13 rfl ?_
            refine ms_iload_n dX11_scene_14 rfl ?_
            refine qRV1 dX11_scene_15 kX11_135 (by show _ < 178; first | decide | exact lt_sc (by omega) | exact lt_dy (by omega)) (by show (sh0 _).1 = _; first | rfl | rw [sh_sc (by omega)] | rw [sh_dy (by omega)]) (d := d - 1) (by show d - 1 + 1 ≤ d; omega) rfl (Nat.le_of_ble_eq_true rfl) (Nat.le_of_ble_eq_true rfl) (p1) rfl ?_
            refine ms_if_eq (tgt := 25) dX11_scene_18 (by decide) (fun c18 => absurd c18 (by decide)) (fun c18 => ?_)
            refine ms_iconst (v := nI 1) dX11_scene_21 (by decide) ?_
            refine ms_goto (tgt := 26) dX11_scene_22 (by decide) ?_
            refine ms_istore dX11_scene_26 (Nat.le_of_ble_eq_true rfl) ?_
            refine ms_aload_n dX11_scene_28 rfl ?_
            refine ms_iload dX11_scene_29 rfl ?_
            refine ms_if_ne (tgt := 38) dX11_scene_31 (by decide) (fun c31 => ?_) (fun c31 => absurd c31 (by decide))
            refine ms_iload dX11_scene_38 rfl ?_
            refine ms_iconst (v := nI 1) dX11_scene_40 (by decide) ?_
            refine ms_bipush (v := nI 32) dX11_scene_41 (by decide) ?_
            refine qRS3 dX11_scene_43 kX11_117 (d := d - 1) (by show d - 1 + 1 ≤ d; omega) rfl rfl rfl (Nat.le_of_ble_eq_true rfl) (Nat.le_of_ble_eq_true rfl) (kr_in1 h5) rfl ?_
            refine ms_if_ne (tgt := 53) dX11_scene_46 (by decide) (fun c46 => ?_) (fun c46 => absurd c46 (by decide))
            refine ms_aload_n dX11_scene_53 rfl ?_
            refine q_geti dX11_scene_54 fX11_114 (by rw [kd_11_3]; decide) (by first | decide | exact lt_sc (by omega) | exact lt_dy (by omega) | exact lt_rw (by omega) | exact lt_wa (by omega) | exact lt_le (by omega)) (by first | rfl | rw [sh_sc (by omega)] | rw [sh_dy (by omega)]) hjm ?_
            refine ms_bipush (v := nI 20) dX11_scene_57 (by decide) ?_
            refine n_icmp_ne (tgt := 66) dX11_scene_59 (by decide) (by omega) (by omega) (fun c59 => ?_) (fun c59 => absurd c59 (by omega))
            refine ms_iconst (v := nI 0) dX11_scene_66 (by decide) ?_
            refine qRV1 dX11_scene_67 kX11_138 (by show _ < 178; first | decide | exact lt_sc (by omega) | exact lt_dy (by omega)) (by show (sh0 _).1 = _; first | rfl | rw [sh_sc (by omega)] | rw [sh_dy (by omega)]) (d := d - 1) (by show d - 1 + 1 ≤ d; omega) rfl (Nat.le_of_ble_eq_true rfl) (Nat.le_of_ble_eq_true rfl) (hgw) rfl ?_
            refine ms_if_ne (tgt := 75) dX11_scene_70 (by decide) (fun c70 => ?_) (fun c70 => absurd c70 (by decide))
            refine ms_iload_n dX11_scene_75 rfl ?_
            refine ms_iconst (v := -1) dX11_scene_76 (by decide) ?_
            refine ms_icmp_ne (tgt := 84) dX11_scene_77 (by decide) (fun c77 => ?_) (fun c77 => absurd c77 (hne))
            refine ms_aload_n dX11_scene_84 rfl ?_
            refine ms_iload_n dX11_scene_85 rfl ?_
            refine qRV1 dX11_scene_86 kX11_127 (by show _ < 178; first | decide | exact lt_sc (by omega) | exact lt_dy (by omega)) (by show (sh0 _).1 = _; first | rfl | rw [sh_sc (by omega)] | rw [sh_dy (by omega)]) (d := d - 1) (by show d - 1 + 1 ≤ d; omega) rfl (Nat.le_of_ble_eq_true rfl) (Nat.le_of_ble_eq_true rfl) (hpi) rfl ?_
            refine ms_iconst (v := nI 1) dX11_scene_89 (by decide) ?_
            refine n_iadd dX11_scene_90 ?_
            refine ms_istore dX11_scene_91 (Nat.le_of_ble_eq_true rfl) ?_
            exact h9 _
        by_cases hn20 : n < 20
        · have hroom1 : ∀ lg d, 4 ≤ d → m_R S M_X9_hasRoomBehind d [.ref 1, .int x1] (hh I lg) (some (.int (bi true))) (hh I lg) := fun lg d hd => by
            have e := hroom lg d hd
            rw [decide_eq_true hn20] at e
            exact e
          have h32 : vN x5 ≤ 32 := vN_le (n := 32) (by omega) ⟨Int32.le_trans (show nI 0 ≤ nI 1 by decide) h5.1, h5.2⟩
          obtain ⟨IA, hIA⟩ : ∃ IA, IA = adI (m_up2 (shI I 3 sp n) 3 sp (nI n)) n (nI p) (bi c3) (bi c4) x5 := ⟨_, rfl⟩
          obtain ⟨a0, a3, a4, a5⟩ := ad_facts (I := I) (sp := sp) (x1 := nI p) (x2 := bi c3) (x3 := bi c4) (x4 := x5) hn20
          rw [← hIA] at a0 a3 a4 a5
          by_cases hlo : I 1 4 = 0
          · have eI : orI (adI I n (nI p) (bi c3) (bi c4) x5) n sp = m_up2 IA 1 3 (nI (n + 1)) := by rw [hIA]; exact or_ad
            have hIv : Iv (c + 1) (m_up2 IA 1 3 (nI (n + 1))) := Iv_scene hI hn.symm hn20 hsp (by omega) m_up2_eq (fun k hk => (congrArg vN (m_up2_ne (by omega))).trans (a4 k hk)) ((m_up2_ne (by unfold scI; omega)).trans a0) (by rw [m_up2_ne (by unfold scI; omega), a3]; exact h32) (by rw [m_up2_ne (by unfold scI; omega), a5 _ _ (by unfold scI; omega) (by omega)]; exact (h6' n hn20).1) (fun a b z1 z2 z3 => (m_up2_ne z2).trans (a5 a b z1 (by omega)))
            refine Okc_go (I1 := m_up2 IA 1 3 (nI (n + 1))) (some (.int (nI n))) (by omega) hC (fun lg d hd => by
              have e := k_scene (S := S) (lg := lg) (d := d) c3 c4 (by omega) hM hb hL hp h5 (hroom1 lg) (fun d hd => k_add0 (c2 := c3) (c3 := c4) (x1 := nI p) (x4 := x5) hd hlo hM.1 hn20 hsp (fun d' hd' => hsb lg d' hd'))
              rw [eI] at e
              exact e) (fun a b z => (m_up2_ne (by omega)).trans (a5 a b (by omega) (by unfold scI; omega))) hIv (fun J J' hJ hC' hgw hne hz => ?_)
            refine ⟨ssR J' n sp (nI p) (bi c3) (bi c4) x5, fun lg d hd => r93 J J' _ lg d hd hJ hC' (hgw _ _) hn20 (Or.inl ⟨hC'.lk.trans hlo, rfl⟩), ?_, fun a b z => ssR_ne (by omega) (by omega) (by omega), ssR_ne (by omega) (by omega) (by omega)⟩
            rw [hIA]
            exact Cr_scene hC' hn.symm hn20 hsp h7'
          · obtain ⟨nu, hnu⟩ : ∃ nu, nu = nuC I (vo I) sp := ⟨_, rfl⟩
            have eI : orI (lbI (adI I n (nI p) (bi c3) (bi c4) x5) n nu (nI q)) n sp = m_up2 (lbI IA n nu (nI q)) 1 3 (nI (n + 1)) := by rw [hIA]; exact or_lb
            have a6 : ∀ a b, ¬ (a = scI n ∧ (b = 6 ∨ b = 7)) → lbI IA n nu (nI q) a b = IA a b := fun a b z => by
              unfold lbI
              exact (m_up2_ne (by omega)).trans (m_up2_ne (by omega))
            have hIv : Iv (c + 1) (m_up2 (lbI IA n nu (nI q)) 1 3 (nI (n + 1))) := Iv_scene hI hn.symm hn20 hsp (by omega) m_up2_eq (fun k hk => (congrArg vN ((m_up2_ne (by omega)).trans (a6 _ _ (by unfold scI; omega)))).trans (a4 k hk)) ((m_up2_ne (by unfold scI; omega)).trans ((a6 _ _ (by omega)).trans a0)) (by rw [m_up2_ne (by unfold scI; omega), a6 _ _ (by omega), a3]; exact h32) (by rw [m_up2_ne (by unfold scI; omega), show lbI IA n nu (nI q) (scI n) 7 = nI q from m_up2_eq, vN_nI (by omega)]; exact q2) (fun a b z1 z2 z3 => (m_up2_ne z2).trans ((a6 a b (by omega)).trans (a5 a b z1 (by omega))))
            have ho2 : ∀ k, k < n → I 3 k = nI (vo I k) ∧ vo I k < n := fun k hk => ⟨(ho k hk).1, by have := h5'.1 k (by omega); omega⟩
            refine Okc_go (I1 := m_up2 (lbI IA n nu (nI q)) 1 3 (nI (n + 1))) (some (.int (nI n))) (by omega) hC (fun lg d hd => by
              have e := k_scene (S := S) (lg := lg) (d := d) c3 c4 (by omega) hM hb hL hp h5 (hroom1 lg) (fun d hd => k_add1 (c2 := c3) (c3 := c4) (x1 := nI p) (x4 := x5) hd hlo hM.1 hn20 hsp ho2 (h7' n hn20 (by omega)).1 (fun d' hd' => hsb lg d' hd') q1 q2 q3 q4)
              rw [← hnu, eI] at e
              exact e) (fun a b z => (m_up2_ne (by omega)).trans ((a6 a b (by unfold scI; omega)).trans (a5 a b (by omega) (by unfold scI; omega)))) hIv (fun J J' hJ hC' hgw hne hz => ?_)
            obtain ⟨R, hR⟩ : ∃ R, R = ssR J' n sp (nI p) (bi c3) (bi c4) x5 := ⟨_, rfl⟩
            have hCR : Cr (m_up2 IA 1 3 (nI (n + 1))) R := by
              rw [hIA, hR]
              exact Cr_scene hC' hn.symm hn20 hsp h7'
            have hR6 : ∀ s, s < 20 → R 146 s = I (scI s) 7 ∧ R 145 s = I (scI s) 6 := fun s hs => by
              rw [hR]
              exact ⟨(ssR_ne (by omega) (by omega) (by omega)).trans (hC'.le hs), (ssR_ne (by omega) (by omega) (by omega)).trans (hC'.nu hs)⟩
            have hRm : R 143 3 = nI (n + 1) := by rw [hR]; exact m_up2_eq
            have vR : vm (m_up2 IA 1 3 (nI (n + 1))) = n + 1 := (congrArg vN m_up2_eq).trans (vN_nI (by omega))
            have hlt : ∀ k, k < n + 1 → pu1 (vo I) n sp k < n + 1 := pu1_lt (fun k hk => (ho2 k hk).2) hsp
            have hRo : ∀ k, k < n + 1 → R 144 k = nI (pu1 (vo I) n sp k) ∧ pu1 (vo I) n sp k < 20 := fun k hk => by
              refine ⟨?_, by have := hlt k hk; omega⟩
              rw [hCR.st (by omega), m_up2_ne (by omega), ← a4 k hk]
              exact (nI_vN _).symm
            have hlow : ∀ j, j < sp → pu1 (vo I) n sp j = vo I j := fun j hj => by
              unfold pu1
              rw [if_neg (by omega), if_neg (by omega)]
            have hnuR : nuR R (pu1 (vo I) n sp) sp = nu := by
              rw [hnu]
              exact nu_eq (fun j hj => ⟨hlow j hj, hR6 _ (by have := (ho2 j (by omega)).2; omega)⟩) sp (Nat.le_refl _)
            rw [← hnu] at q3 q4
            have hls : ∀ y, y < 32 → anyB (lsP R n nu y) (n + 1) = bt (tkC I nu n) y := fun y hy => ls_eq h26 hy (fun j hj => hR6 j (by omega))
            have hlet : ∀ lg d, 2 ≤ d → m_R S M_X11_letter d [.ref 143, .int (nI n)] (hh R lg) none (hh (m_up2 (m_up2 R 145 n nu) 146 n (nI q)) lg) := fun lg d hd => by
              have e := kr_letter (S := S) (I := R) (lg := lg) (d := d) (m := n + 1) (s := n) (a := sp) (q0 := q) (o := pu1 (vo I) n sp) hd hRm (by omega) hRo (by omega) (if_pos rfl) (fun j hj z => by
                rw [hlow j hj] at z
                have := (ho2 j (by omega)).2
                omega) (by omega) ((hR6 n hn20).1.trans (h7' n hn20 (by omega)).1) q1 q2 (by rw [hnuR, hls q (by omega)]; exact q3) (fun y y1 y2 => by rw [hnuR, hls y (by omega)]; exact q4 y y1 y2)
              rw [hnuR] at e
              exact e
            refine ⟨m_up2 (m_up2 R 145 n nu) 146 n (nI q), fun lg d hd => r93 J J' _ lg d hd hJ hC' (hgw _ _) hn20 (Or.inr ⟨fun z => hlo (hC'.lk.symm.trans z), fun d hd => by rw [← hR]; exact hlet lg d hd⟩), ?_, fun a b z => (m_up2_ne (by omega)).trans ((m_up2_ne (by omega)).trans (by rw [hR]; exact ssR_ne (by omega) (by omega) (by omega))), (m_up2_ne (by omega)).trans ((m_up2_ne (by omega)).trans (by rw [hR]; exact ssR_ne (by omega) (by omega) (by omega)))⟩
            have e9 : m_up2 (lbI IA n nu (nI q)) 1 3 (nI (n + 1)) = m_up2 (m_up2 (m_up2 IA 1 3 (nI (n + 1))) (scI n) 6 nu) (scI n) 7 (nI q) := by
              unfold lbI
              rw [m_up2_cm _ _ _ (show ¬ (scI n = 1 ∧ 7 = 3) by omega), m_up2_cm _ _ _ (show ¬ (scI n = 1 ∧ 6 = 3) by omega)]
            rw [e9]
            have d1 := Cr_up (x := nu) (by rw [vR]; omega) hCR (a := 145) (b := n) (c := scI n) (d := 6) (by unfold lvR; omega) rfl (by omega) (by omega)
            have v1 : vm (m_up2 (m_up2 IA 1 3 (nI (n + 1))) (scI n) 6 nu) = n + 1 := (congrArg vN (m_up2_ne (by omega))).trans vR
            exact Cr_up (x := nI q) (by rw [v1]; omega) d1 (a := 146) (b := n) (c := scI n) (d := 7) (by unfold lvR; omega) rfl (by omega) (by omega)
        · have hroom0 : ∀ lg d, 4 ≤ d → m_R S M_X9_hasRoomBehind d [.ref 1, .int x1] (hh I lg) (some (.int (bi false))) (hh I lg) := fun lg d hd => by
            have e := hroom lg d hd
            rw [decide_eq_false hn20] at e
            exact e
          refine Okc_thr (k := 2) (E := xS) (b := some (.int (nI 0))) hI hC rfl (fun lg d hd => k_sceneT4 (by omega) hM hb hL hp h5 (hroom0 lg)) (fun lg d hd => ?_)
          have hjm : I 143 3 = nI n := hC.m.trans hM.1
          have p1 := kr_pl1 (S := S) (J := I) (lg := lg) (d := d - 1) (by omega) (hC.lc.trans hL.1) hL2 hp
          rcases hb with rfl | ⟨j, hj, rfl⟩
          · refine ms_iload_n dX11_scene_0 rfl ?_
            refine ms_iconst (v := -1) dX11_scene_1 (by decide) ?_
            refine ms_icmp_eq (tgt := 13) dX11_scene_2 (by decide) (fun c2 => ?_) (fun c2 => absurd c2 (by decide))
            refine ms_aload_n dX11_scene_13 rfl ?_
            refine ms_iload_n dX11_scene_14 rfl ?_
            refine qRV1 dX11_scene_15 kX11_135 (by show _ < 178; first | decide | exact lt_sc (by omega) | exact lt_dy (by omega)) (by show (sh0 _).1 = _; first | rfl | rw [sh_sc (by omega)] | rw [sh_dy (by omega)]) (d := d - 1) (by show d - 1 + 1 ≤ d; omega) rfl (Nat.le_of_ble_eq_true rfl) (Nat.le_of_ble_eq_true rfl) (p1) rfl ?_
            refine ms_if_eq (tgt := 25) dX11_scene_18 (by decide) (fun c18 => absurd c18 (by decide)) (fun c18 => ?_)
            refine ms_iconst (v := nI 1) dX11_scene_21 (by decide) ?_
            refine ms_goto (tgt := 26) dX11_scene_22 (by decide) ?_
            refine ms_istore dX11_scene_26 (Nat.le_of_ble_eq_true rfl) ?_
            refine ms_aload_n dX11_scene_28 rfl ?_
            refine ms_iload dX11_scene_29 rfl ?_
            refine ms_if_ne (tgt := 38) dX11_scene_31 (by decide) (fun c31 => ?_) (fun c31 => absurd c31 (by decide))
            refine ms_iload dX11_scene_38 rfl ?_
            refine ms_iconst (v := nI 1) dX11_scene_40 (by decide) ?_
            refine ms_bipush (v := nI 32) dX11_scene_41 (by decide) ?_
            refine qRS3 dX11_scene_43 kX11_117 (d := d - 1) (by show d - 1 + 1 ≤ d; omega) rfl rfl rfl (Nat.le_of_ble_eq_true rfl) (Nat.le_of_ble_eq_true rfl) (kr_in1 h5) rfl ?_
            refine ms_if_ne (tgt := 53) dX11_scene_46 (by decide) (fun c46 => ?_) (fun c46 => absurd c46 (by decide))
            refine ms_aload_n dX11_scene_53 rfl ?_
            refine q_geti dX11_scene_54 fX11_114 (by rw [kd_11_3]; decide) (by first | decide | exact lt_sc (by omega) | exact lt_dy (by omega) | exact lt_rw (by omega) | exact lt_wa (by omega) | exact lt_le (by omega)) (by first | rfl | rw [sh_sc (by omega)] | rw [sh_dy (by omega)]) hjm ?_
            refine ms_bipush (v := nI 20) dX11_scene_57 (by decide) ?_
            refine n_icmp_ne (tgt := 66) dX11_scene_59 (by decide) (by omega) (by omega) (fun c59 => absurd c59 (by omega)) (fun c59 => ?_)
            refine ms_iconst (v := nI 3) dX11_scene_62 (by decide) ?_
            refine ms_goto (tgt := 67) dX11_scene_63 (by decide) ?_
            refine qRV1 dX11_scene_67 kX11_138 (by show _ < 178; first | decide | exact lt_sc (by omega) | exact lt_dy (by omega)) (by show (sh0 _).1 = _; first | rfl | rw [sh_sc (by omega)] | rw [sh_dy (by omega)]) (d := d - 1) (by show d - 1 + 1 ≤ d; omega) rfl (Nat.le_of_ble_eq_true rfl) (Nat.le_of_ble_eq_true rfl) (kr_gwk 2 (by decide)) rfl ?_
            refine ms_if_ne (tgt := 75) dX11_scene_70 (by decide) (fun c70 => absurd c70 (by decide)) (fun c70 => ?_)
            refine ms_iconst (v := nI 0) dX11_scene_73 (by decide) ?_
            refine ms_iret dX11_scene_74 rfl rfl ⟨?_, ?_⟩
            · rfl
            · rfl
          · have hne := nI_nm1 (j := j) (by omega)
            have hsc := kr_sc1 (S := S) (J := I) (lg := lg) (d := d - 1) (by omega) (hC.m.trans hM.1) hm hj
            refine ms_iload_n dX11_scene_0 rfl ?_
            refine ms_iconst (v := -1) dX11_scene_1 (by decide) ?_
            refine ms_icmp_eq (tgt := 13) dX11_scene_2 (by decide) (fun c2 => absurd c2 (hne)) (fun c2 => ?_)
            refine ms_aload_n dX11_scene_5 rfl ?_
            refine ms_iload_n dX11_scene_6 rfl ?_
            refine qRV1 dX11_scene_7 kX11_131 (by show _ < 178; first | decide | exact lt_sc (by omega) | exact lt_dy (by omega)) (by show (sh0 _).1 = _; first | rfl | rw [sh_sc (by omega)] | rw [sh_dy (by omega)]) (d := d - 1) (by show d - 1 + 1 ≤ d; omega) rfl (Nat.le_of_ble_eq_true rfl) (Nat.le_of_ble_eq_true rfl) (hsc) rfl ?_
            refine ms_if_eq (tgt := 25) dX11_scene_10 (by decide) (fun c10 => absurd c10 (by decide)) (fun c10 => ?_)
            refine ms_aload_n dX11_scene_13 rfl ?_
            refine ms_iload_n dX11_scene_14 rfl ?_
            refine qRV1 dX11_scene_15 kX11_135 (by show _ < 178; first | decide | exact lt_sc (by omega) | exact lt_dy (by omega)) (by show (sh0 _).1 = _; first | rfl | rw [sh_sc (by omega)] | rw [sh_dy (by omega)]) (d := d - 1) (by show d - 1 + 1 ≤ d; omega) rfl (Nat.le_of_ble_eq_true rfl) (Nat.le_of_ble_eq_true rfl) (p1) rfl ?_
            refine ms_if_eq (tgt := 25) dX11_scene_18 (by decide) (fun c18 => absurd c18 (by decide)) (fun c18 => ?_)
            refine ms_iconst (v := nI 1) dX11_scene_21 (by decide) ?_
            refine ms_goto (tgt := 26) dX11_scene_22 (by decide) ?_
            refine ms_istore dX11_scene_26 (Nat.le_of_ble_eq_true rfl) ?_
            refine ms_aload_n dX11_scene_28 rfl ?_
            refine ms_iload dX11_scene_29 rfl ?_
            refine ms_if_ne (tgt := 38) dX11_scene_31 (by decide) (fun c31 => ?_) (fun c31 => absurd c31 (by decide))
            refine ms_iload dX11_scene_38 rfl ?_
            refine ms_iconst (v := nI 1) dX11_scene_40 (by decide) ?_
            refine ms_bipush (v := nI 32) dX11_scene_41 (by decide) ?_
            refine qRS3 dX11_scene_43 kX11_117 (d := d - 1) (by show d - 1 + 1 ≤ d; omega) rfl rfl rfl (Nat.le_of_ble_eq_true rfl) (Nat.le_of_ble_eq_true rfl) (kr_in1 h5) rfl ?_
            refine ms_if_ne (tgt := 53) dX11_scene_46 (by decide) (fun c46 => ?_) (fun c46 => absurd c46 (by decide))
            refine ms_aload_n dX11_scene_53 rfl ?_
            refine q_geti dX11_scene_54 fX11_114 (by rw [kd_11_3]; decide) (by first | decide | exact lt_sc (by omega) | exact lt_dy (by omega) | exact lt_rw (by omega) | exact lt_wa (by omega) | exact lt_le (by omega)) (by first | rfl | rw [sh_sc (by omega)] | rw [sh_dy (by omega)]) hjm ?_
            refine ms_bipush (v := nI 20) dX11_scene_57 (by decide) ?_
            refine n_icmp_ne (tgt := 66) dX11_scene_59 (by decide) (by omega) (by omega) (fun c59 => absurd c59 (by omega)) (fun c59 => ?_)
            refine ms_iconst (v := nI 3) dX11_scene_62 (by decide) ?_
            refine ms_goto (tgt := 67) dX11_scene_63 (by decide) ?_
            refine qRV1 dX11_scene_67 kX11_138 (by show _ < 178; first | decide | exact lt_sc (by omega) | exact lt_dy (by omega)) (by show (sh0 _).1 = _; first | rfl | rw [sh_sc (by omega)] | rw [sh_dy (by omega)]) (d := d - 1) (by show d - 1 + 1 ≤ d; omega) rfl (Nat.le_of_ble_eq_true rfl) (Nat.le_of_ble_eq_true rfl) (kr_gwk 2 (by decide)) rfl ?_
            refine ms_if_ne (tgt := 75) dX11_scene_70 (by decide) (fun c70 => absurd c70 (by decide)) (fun c70 => ?_)
            refine ms_iconst (v := nI 0) dX11_scene_73 (by decide) ?_
            refine ms_iret dX11_scene_74 rfl rfl ⟨?_, ?_⟩
            · rfl
            · rfl
      · refine Okc_thr (k := 1) (E := xA) (b := some (.int (nI 0))) hI hC rfl (fun lg d hd => k_sceneT3 (by omega) hM hb hL hp h5) (fun lg d hd => ?_)
        have p1 := kr_pl1 (S := S) (J := I) (lg := lg) (d := d - 1) (by omega) (hC.lc.trans hL.1) hL2 hp
        rcases hb with rfl | ⟨j, hj, rfl⟩
        · refine ms_iload_n dX11_scene_0 rfl ?_
          refine ms_iconst (v := -1) dX11_scene_1 (by decide) ?_
          refine ms_icmp_eq (tgt := 13) dX11_scene_2 (by decide) (fun c2 => ?_) (fun c2 => absurd c2 (by decide))
          refine ms_aload_n dX11_scene_13 rfl ?_
          refine ms_iload_n dX11_scene_14 rfl ?_
          refine qRV1 dX11_scene_15 kX11_135 (by show _ < 178; first | decide | exact lt_sc (by omega) | exact lt_dy (by omega)) (by show (sh0 _).1 = _; first | rfl | rw [sh_sc (by omega)] | rw [sh_dy (by omega)]) (d := d - 1) (by show d - 1 + 1 ≤ d; omega) rfl (Nat.le_of_ble_eq_true rfl) (Nat.le_of_ble_eq_true rfl) (p1) rfl ?_
          refine ms_if_eq (tgt := 25) dX11_scene_18 (by decide) (fun c18 => absurd c18 (by decide)) (fun c18 => ?_)
          refine ms_iconst (v := nI 1) dX11_scene_21 (by decide) ?_
          refine ms_goto (tgt := 26) dX11_scene_22 (by decide) ?_
          refine ms_istore dX11_scene_26 (Nat.le_of_ble_eq_true rfl) ?_
          refine ms_aload_n dX11_scene_28 rfl ?_
          refine ms_iload dX11_scene_29 rfl ?_
          refine ms_if_ne (tgt := 38) dX11_scene_31 (by decide) (fun c31 => ?_) (fun c31 => absurd c31 (by decide))
          refine ms_iload dX11_scene_38 rfl ?_
          refine ms_iconst (v := nI 1) dX11_scene_40 (by decide) ?_
          refine ms_bipush (v := nI 32) dX11_scene_41 (by decide) ?_
          refine qRS3 dX11_scene_43 kX11_117 (d := d - 1) (by show d - 1 + 1 ≤ d; omega) rfl rfl rfl (Nat.le_of_ble_eq_true rfl) (Nat.le_of_ble_eq_true rfl) (kr_in0 h5) rfl ?_
          refine ms_if_ne (tgt := 53) dX11_scene_46 (by decide) (fun c46 => absurd c46 (by decide)) (fun c46 => ?_)
          refine ms_iconst (v := nI 2) dX11_scene_49 (by decide) ?_
          refine ms_goto (tgt := 67) dX11_scene_50 (by decide) ?_
          refine qRV1 dX11_scene_67 kX11_138 (by show _ < 178; first | decide | exact lt_sc (by omega) | exact lt_dy (by omega)) (by show (sh0 _).1 = _; first | rfl | rw [sh_sc (by omega)] | rw [sh_dy (by omega)]) (d := d - 1) (by show d - 1 + 1 ≤ d; omega) rfl (Nat.le_of_ble_eq_true rfl) (Nat.le_of_ble_eq_true rfl) (kr_gwk 1 (by decide)) rfl ?_
          refine ms_if_ne (tgt := 75) dX11_scene_70 (by decide) (fun c70 => absurd c70 (by decide)) (fun c70 => ?_)
          refine ms_iconst (v := nI 0) dX11_scene_73 (by decide) ?_
          refine ms_iret dX11_scene_74 rfl rfl ⟨?_, ?_⟩
          · rfl
          · rfl
        · have hne := nI_nm1 (j := j) (by omega)
          have hsc := kr_sc1 (S := S) (J := I) (lg := lg) (d := d - 1) (by omega) (hC.m.trans hM.1) hm hj
          refine ms_iload_n dX11_scene_0 rfl ?_
          refine ms_iconst (v := -1) dX11_scene_1 (by decide) ?_
          refine ms_icmp_eq (tgt := 13) dX11_scene_2 (by decide) (fun c2 => absurd c2 (hne)) (fun c2 => ?_)
          refine ms_aload_n dX11_scene_5 rfl ?_
          refine ms_iload_n dX11_scene_6 rfl ?_
          refine qRV1 dX11_scene_7 kX11_131 (by show _ < 178; first | decide | exact lt_sc (by omega) | exact lt_dy (by omega)) (by show (sh0 _).1 = _; first | rfl | rw [sh_sc (by omega)] | rw [sh_dy (by omega)]) (d := d - 1) (by show d - 1 + 1 ≤ d; omega) rfl (Nat.le_of_ble_eq_true rfl) (Nat.le_of_ble_eq_true rfl) (hsc) rfl ?_
          refine ms_if_eq (tgt := 25) dX11_scene_10 (by decide) (fun c10 => absurd c10 (by decide)) (fun c10 => ?_)
          refine ms_aload_n dX11_scene_13 rfl ?_
          refine ms_iload_n dX11_scene_14 rfl ?_
          refine qRV1 dX11_scene_15 kX11_135 (by show _ < 178; first | decide | exact lt_sc (by omega) | exact lt_dy (by omega)) (by show (sh0 _).1 = _; first | rfl | rw [sh_sc (by omega)] | rw [sh_dy (by omega)]) (d := d - 1) (by show d - 1 + 1 ≤ d; omega) rfl (Nat.le_of_ble_eq_true rfl) (Nat.le_of_ble_eq_true rfl) (p1) rfl ?_
          refine ms_if_eq (tgt := 25) dX11_scene_18 (by decide) (fun c18 => absurd c18 (by decide)) (fun c18 => ?_)
          refine ms_iconst (v := nI 1) dX11_scene_21 (by decide) ?_
          refine ms_goto (tgt := 26) dX11_scene_22 (by decide) ?_
          refine ms_istore dX11_scene_26 (Nat.le_of_ble_eq_true rfl) ?_
          refine ms_aload_n dX11_scene_28 rfl ?_
          refine ms_iload dX11_scene_29 rfl ?_
          refine ms_if_ne (tgt := 38) dX11_scene_31 (by decide) (fun c31 => ?_) (fun c31 => absurd c31 (by decide))
          refine ms_iload dX11_scene_38 rfl ?_
          refine ms_iconst (v := nI 1) dX11_scene_40 (by decide) ?_
          refine ms_bipush (v := nI 32) dX11_scene_41 (by decide) ?_
          refine qRS3 dX11_scene_43 kX11_117 (d := d - 1) (by show d - 1 + 1 ≤ d; omega) rfl rfl rfl (Nat.le_of_ble_eq_true rfl) (Nat.le_of_ble_eq_true rfl) (kr_in0 h5) rfl ?_
          refine ms_if_ne (tgt := 53) dX11_scene_46 (by decide) (fun c46 => absurd c46 (by decide)) (fun c46 => ?_)
          refine ms_iconst (v := nI 2) dX11_scene_49 (by decide) ?_
          refine ms_goto (tgt := 67) dX11_scene_50 (by decide) ?_
          refine qRV1 dX11_scene_67 kX11_138 (by show _ < 178; first | decide | exact lt_sc (by omega) | exact lt_dy (by omega)) (by show (sh0 _).1 = _; first | rfl | rw [sh_sc (by omega)] | rw [sh_dy (by omega)]) (d := d - 1) (by show d - 1 + 1 ≤ d; omega) rfl (Nat.le_of_ble_eq_true rfl) (Nat.le_of_ble_eq_true rfl) (kr_gwk 1 (by decide)) rfl ?_
          refine ms_if_ne (tgt := 75) dX11_scene_70 (by decide) (fun c70 => absurd c70 (by decide)) (fun c70 => ?_)
          refine ms_iconst (v := nI 0) dX11_scene_73 (by decide) ?_
          refine ms_iret dX11_scene_74 rfl rfl ⟨?_, ?_⟩
          · rfl
          · rfl
    · refine Okc_thr (k := 0) (E := xI) (b := some (.int (nI 0))) hI hC rfl (fun lg d hd => k_sceneT2 (by omega) hM hb hL hx) (fun lg d hd => ?_)
      have p1 := kr_pl0 (S := S) (J := I) (lg := lg) (d := d - 1) (by omega) (hC.lc.trans hL.1) hL2 hx
      rcases hb with rfl | ⟨j, hj, rfl⟩
      · refine ms_iload_n dX11_scene_0 rfl ?_
        refine ms_iconst (v := -1) dX11_scene_1 (by decide) ?_
        refine ms_icmp_eq (tgt := 13) dX11_scene_2 (by decide) (fun c2 => ?_) (fun c2 => absurd c2 (by decide))
        refine ms_aload_n dX11_scene_13 rfl ?_
        refine ms_iload_n dX11_scene_14 rfl ?_
        refine qRV1 dX11_scene_15 kX11_135 (by show _ < 178; first | decide | exact lt_sc (by omega) | exact lt_dy (by omega)) (by show (sh0 _).1 = _; first | rfl | rw [sh_sc (by omega)] | rw [sh_dy (by omega)]) (d := d - 1) (by show d - 1 + 1 ≤ d; omega) rfl (Nat.le_of_ble_eq_true rfl) (Nat.le_of_ble_eq_true rfl) (p1) rfl ?_
        refine ms_if_eq (tgt := 25) dX11_scene_18 (by decide) (fun c18 => ?_) (fun c18 => absurd c18 (by decide))
        refine ms_iconst (v := nI 0) dX11_scene_25 (by decide) ?_
        refine ms_istore dX11_scene_26 (Nat.le_of_ble_eq_true rfl) ?_
        refine ms_aload_n dX11_scene_28 rfl ?_
        refine ms_iload dX11_scene_29 rfl ?_
        refine ms_if_ne (tgt := 38) dX11_scene_31 (by decide) (fun c31 => absurd c31 (by decide)) (fun c31 => ?_)
        refine ms_iconst (v := nI 1) dX11_scene_34 (by decide) ?_
        refine ms_goto (tgt := 67) dX11_scene_35 (by decide) ?_
        refine qRV1 dX11_scene_67 kX11_138 (by show _ < 178; first | decide | exact lt_sc (by omega) | exact lt_dy (by omega)) (by show (sh0 _).1 = _; first | rfl | rw [sh_sc (by omega)] | rw [sh_dy (by omega)]) (d := d - 1) (by show d - 1 + 1 ≤ d; omega) rfl (Nat.le_of_ble_eq_true rfl) (Nat.le_of_ble_eq_true rfl) (kr_gwk 0 (by decide)) rfl ?_
        refine ms_if_ne (tgt := 75) dX11_scene_70 (by decide) (fun c70 => absurd c70 (by decide)) (fun c70 => ?_)
        refine ms_iconst (v := nI 0) dX11_scene_73 (by decide) ?_
        refine ms_iret dX11_scene_74 rfl rfl ⟨?_, ?_⟩
        · rfl
        · rfl
      · have hne := nI_nm1 (j := j) (by omega)
        have hsc := kr_sc1 (S := S) (J := I) (lg := lg) (d := d - 1) (by omega) (hC.m.trans hM.1) hm hj
        refine ms_iload_n dX11_scene_0 rfl ?_
        refine ms_iconst (v := -1) dX11_scene_1 (by decide) ?_
        refine ms_icmp_eq (tgt := 13) dX11_scene_2 (by decide) (fun c2 => absurd c2 (hne)) (fun c2 => ?_)
        refine ms_aload_n dX11_scene_5 rfl ?_
        refine ms_iload_n dX11_scene_6 rfl ?_
        refine qRV1 dX11_scene_7 kX11_131 (by show _ < 178; first | decide | exact lt_sc (by omega) | exact lt_dy (by omega)) (by show (sh0 _).1 = _; first | rfl | rw [sh_sc (by omega)] | rw [sh_dy (by omega)]) (d := d - 1) (by show d - 1 + 1 ≤ d; omega) rfl (Nat.le_of_ble_eq_true rfl) (Nat.le_of_ble_eq_true rfl) (hsc) rfl ?_
        refine ms_if_eq (tgt := 25) dX11_scene_10 (by decide) (fun c10 => absurd c10 (by decide)) (fun c10 => ?_)
        refine ms_aload_n dX11_scene_13 rfl ?_
        refine ms_iload_n dX11_scene_14 rfl ?_
        refine qRV1 dX11_scene_15 kX11_135 (by show _ < 178; first | decide | exact lt_sc (by omega) | exact lt_dy (by omega)) (by show (sh0 _).1 = _; first | rfl | rw [sh_sc (by omega)] | rw [sh_dy (by omega)]) (d := d - 1) (by show d - 1 + 1 ≤ d; omega) rfl (Nat.le_of_ble_eq_true rfl) (Nat.le_of_ble_eq_true rfl) (p1) rfl ?_
        refine ms_if_eq (tgt := 25) dX11_scene_18 (by decide) (fun c18 => ?_) (fun c18 => absurd c18 (by decide))
        refine ms_iconst (v := nI 0) dX11_scene_25 (by decide) ?_
        refine ms_istore dX11_scene_26 (Nat.le_of_ble_eq_true rfl) ?_
        refine ms_aload_n dX11_scene_28 rfl ?_
        refine ms_iload dX11_scene_29 rfl ?_
        refine ms_if_ne (tgt := 38) dX11_scene_31 (by decide) (fun c31 => absurd c31 (by decide)) (fun c31 => ?_)
        refine ms_iconst (v := nI 1) dX11_scene_34 (by decide) ?_
        refine ms_goto (tgt := 67) dX11_scene_35 (by decide) ?_
        refine qRV1 dX11_scene_67 kX11_138 (by show _ < 178; first | decide | exact lt_sc (by omega) | exact lt_dy (by omega)) (by show (sh0 _).1 = _; first | rfl | rw [sh_sc (by omega)] | rw [sh_dy (by omega)]) (d := d - 1) (by show d - 1 + 1 ≤ d; omega) rfl (Nat.le_of_ble_eq_true rfl) (Nat.le_of_ble_eq_true rfl) (kr_gwk 0 (by decide)) rfl ?_
        refine ms_if_ne (tgt := 75) dX11_scene_70 (by decide) (fun c70 => absurd c70 (by decide)) (fun c70 => ?_)
        refine ms_iconst (v := nI 0) dX11_scene_73 (by decide) ?_
        refine ms_iret dX11_scene_74 rfl rfl ⟨?_, ?_⟩
        · rfl
        · rfl
  · have hb1 : x1 ≠ -1 := fun z => hb (Or.inl z)
    have hb2 : ∀ j, j < n → x1 ≠ nI j := fun j hj z => hb (Or.inr ⟨j, hj, z⟩)
    refine Okc_thr (k := 0) (E := xI) (b := some (.int (nI 0))) hI hC rfl (fun lg d hd => k_sceneT1 (by omega) hM hb1 hb2) (fun lg d hd => ?_)
    have hsc := kr_sc0 (S := S) (J := I) (lg := lg) (d := d - 1) (by omega) (hC.m.trans hM.1) hm hb2
    refine ms_iload_n dX11_scene_0 rfl ?_
    refine ms_iconst (v := -1) dX11_scene_1 (by decide) ?_
    refine ms_icmp_eq (tgt := 13) dX11_scene_2 (by decide) (fun c2 => absurd c2 (hb1)) (fun c2 => ?_)
    refine ms_aload_n dX11_scene_5 rfl ?_
    refine ms_iload_n dX11_scene_6 rfl ?_
    refine qRV1 dX11_scene_7 kX11_131 (by show _ < 178; first | decide | exact lt_sc (by omega) | exact lt_dy (by omega)) (by show (sh0 _).1 = _; first | rfl | rw [sh_sc (by omega)] | rw [sh_dy (by omega)]) (d := d - 1) (by show d - 1 + 1 ≤ d; omega) rfl (Nat.le_of_ble_eq_true rfl) (Nat.le_of_ble_eq_true rfl) (hsc) rfl ?_
    refine ms_if_eq (tgt := 25) dX11_scene_10 (by decide) (fun c10 => ?_) (fun c10 => absurd c10 (by decide))
    refine ms_iconst (v := nI 0) dX11_scene_25 (by decide) ?_
    refine ms_istore dX11_scene_26 (Nat.le_of_ble_eq_true rfl) ?_
    refine ms_aload_n dX11_scene_28 rfl ?_
    refine ms_iload dX11_scene_29 rfl ?_
    refine ms_if_ne (tgt := 38) dX11_scene_31 (by decide) (fun c31 => absurd c31 (by decide)) (fun c31 => ?_)
    refine ms_iconst (v := nI 1) dX11_scene_34 (by decide) ?_
    refine ms_goto (tgt := 67) dX11_scene_35 (by decide) ?_
    refine qRV1 dX11_scene_67 kX11_138 (by show _ < 178; first | decide | exact lt_sc (by omega) | exact lt_dy (by omega)) (by show (sh0 _).1 = _; first | rfl | rw [sh_sc (by omega)] | rw [sh_dy (by omega)]) (d := d - 1) (by show d - 1 + 1 ≤ d; omega) rfl (Nat.le_of_ble_eq_true rfl) (Nat.le_of_ble_eq_true rfl) (kr_gwk 0 (by decide)) rfl ?_
    refine ms_if_ne (tgt := 75) dX11_scene_70 (by decide) (fun c70 => absurd c70 (by decide)) (fun c70 => ?_)
    refine ms_iconst (v := nI 0) dX11_scene_73 (by decide) ?_
    refine ms_iret dX11_scene_74 rfl rfl ⟨?_, ?_⟩
    · rfl
    · rfl

