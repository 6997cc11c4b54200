-- NAME bridge
/-! both sides: clocks and faults agree -/
theorem Cr_ei {I J : m_I} (h : Cr I J) : eiR J = eiC I := by
  unfold eiR eiC
  rw [h.sm, h.se]
theorem Cr_la {I J : m_I} (h : Cr I J) (hV : Vw I) {t k : Nat} (ht : t < 30) (hk : k < vn I t) : laR J (vw I t) k = laC I (vw I t) k := by
  have h20 := Vw_w20 hV ht hk
  unfold laR laC lasC
  rw [h.sh h20, h.ei h20, h.la h20, Cr_ei h]
theorem Cr_mo {I J : m_I} (h : Cr I J) (hV : Vw I) {t k : Nat} (ht : t < 30) (hk : k < vn I t) : moR J (vq I t) k = moC I (vq I t) k := by
  have p1 := (h.pq hV ht k hk).2
  unfold moR moC mvC
  by_cases h0 : k = 0
  · rw [if_pos h0, if_pos h0]
  · have p2 := (h.pq hV ht (k - 1) (by omega)).2
    rw [if_neg h0, if_neg h0, h.mv (by omega), Nat.mul_comm 6]
theorem Cr_bg {I J : m_I} (h : Cr I J) (hV : Vw I) {t k : Nat} (ht : t < 30) (hk : k < vn I t) : bgR J t (vw I t) (vq I t) k = bgC I t (vw I t) (vq I t) k := by
  unfold bgR bgC
  rw [h.s0 ht]
  exact bgG_cong (fun j hj => ⟨Cr_la h hV ht (by omega), Cr_mo h hV ht (by omega)⟩)
theorem Cr_en {I J : m_I} (h : Cr I J) (hV : Vw I) {t k : Nat} (ht : t < 30) (hk : k < vn I t) : enR J t (vw I t) (vq I t) k = enC I t (vw I t) (vq I t) k := by
  unfold enR enC
  rw [h.s0 ht]
  exact enG_cong (fun j hj => ⟨Cr_la h hV ht (by omega), Cr_mo h hV ht (by omega)⟩)
/-- the sizes of the numbers that times are made of -/
def Bn (I : m_I) : Prop := vN (I 73 0) ≤ 512000 ∧ vN (I 73 1) ≤ 16384 ∧ (∀ s, s < 20 → vN (I (scI s) 3) ≤ 32 ∧ vN (I (scI s) 14) ≤ 1000) ∧ (∀ t, t < 30 → vN (I (dyI t) 0) ≤ 1200) ∧ ∀ k, k < 36 → vN (I 71 k) ≤ 300
theorem Bn_ei {I : m_I} (h : Bn I) : ∃ e, e ≤ 528384 ∧ eiC I = nI e := by
  obtain ⟨h1, h2, -⟩ := h
  unfold eiC
  by_cases z : I 73 1 = 0
  · rw [if_pos z]
    exact ⟨15, by omega, rfl⟩
  · rw [if_neg z]
    have e0 : I 73 0 = nI (vN (I 73 0)) := (nI_vN _).symm
    have e1 : I 73 1 = nI (vN (I 73 1)) := (nI_vN _).symm
    obtain ⟨a, ha⟩ : ∃ a, a = vN (I 73 0) := ⟨_, rfl⟩
    obtain ⟨b, hb⟩ : ∃ b, b = vN (I 73 1) := ⟨_, rfl⟩
    rw [← ha] at e0 h1
    rw [← hb] at e1 h2
    have hb0 : 0 < b := Nat.pos_of_ne_zero (fun y => z (by rw [e1, y]; rfl))
    rw [e0, e1, nI_add, pk_sub (by omega), pk_div (by omega) hb0 (by omega)]
    exact ⟨(a + b - 1) / b, Nat.le_trans (Nat.div_le_self _ _) (by omega), rfl⟩
theorem Bn_la {I : m_I} (h : Bn I) {w : Nat → Nat} {k : Nat} (hw : w k < 20) : ∃ x, x ≤ 16908288 ∧ laC I w k = nI x := by
  obtain ⟨e, h1, h2⟩ := Bn_ei h
  obtain ⟨h3, h4⟩ := h.2.2.1 _ hw
  unfold laC lasC
  by_cases z : I (scI (w k)) 12 = 0
  · rw [if_pos z, h2, ← nI_vN (I (scI (w k)) 3), pk_mul]
    refine ⟨_, ?_, rfl⟩
    exact Nat.le_trans (Nat.mul_le_mul h3 h1) (by decide)
  · rw [if_neg z]
    exact ⟨vN (I (scI (w k)) 14), by omega, (nI_vN _).symm⟩
theorem Bn_mo {I : m_I} (h : Bn I) {pl : Nat → Nat} {k : Nat} (h1 : pl k < 6) (h2 : k ≠ 0 → pl (k - 1) < 6) : ∃ x, x ≤ 300 ∧ moC I pl k = nI x := by
  unfold moC mvC
  by_cases z : k = 0
  · rw [if_pos z]
    exact ⟨0, by omega, rfl⟩
  · rw [if_neg z]
    have := h2 z
    split
    · exact ⟨0, by omega, rfl⟩
    · exact ⟨vN (I 71 (pl (k - 1) * 6 + pl k)), h.2.2.2.2 _ (by omega), (nI_vN _).symm⟩
theorem ck_bound {st : Int32} {las mv : Nat → Int32} {a L : Nat} (hst : st = nI a) (ha : a ≤ 1200) {n : Nat} (hl : ∀ j, j < n → (∃ x, x ≤ L ∧ las j = nI x) ∧ ∃ y, y ≤ 300 ∧ mv j = nI y) : ∀ k, k ≤ n → ∃ x, x ≤ 1200 + k * (L + 330) ∧ (ckG st las mv k).1 = nI x := by
  intro k
  induction k with
  | zero => exact fun _ => ⟨a, Nat.le_trans ha (Nat.le_add_right _ _), hst⟩
  | succ k ih =>
    intro hk
    obtain ⟨x, h1, h2⟩ := ih (by omega)
    obtain ⟨⟨y, h3, h4⟩, z, h5, h6⟩ := hl k (by omega)
    rw [ckG_succ]
    show ∃ q, _ ∧ enG st las mv k = nI q
    unfold enG bgG
    rw [h2, h4, h6, nI_add]
    have e : (k + 1) * (L + 330) = k * (L + 330) + (L + 330) := by rw [Nat.add_mul, Nat.one_mul]
    split
    · rw [nI_add, nI_add]
      exact ⟨_, by omega, rfl⟩
    · rw [nI_add]
      exact ⟨_, by omega, rfl⟩
theorem Bn_en {I : m_I} (h : Bn I) (hV : Vw I) {t k : Nat} (ht : t < 30) (hk : k < vn I t) : ∃ x, x < 200000000 ∧ enC I t (vw I t) (vq I t) k = nI x := by
  have hn := hV.2.1 t ht
  obtain ⟨x, h1, h2⟩ := ck_bound (st := I (dyI t) 0) (las := laC I (vw I t)) (mv := moC I (vq I t)) (a := vN (I (dyI t) 0)) (L := 16908288) (nI_vN _).symm (h.2.2.2.1 t ht) (n := vn I t) (fun j hj => ⟨Bn_la h (Vw_w20 hV ht hj), Bn_mo h (hV.2.2.2.2.2 _ (hV.2.2.1 t j ht hj).1) (fun z => hV.2.2.2.2.2 _ (hV.2.2.1 t (j - 1) ht (by omega)).1)⟩) (k + 1) (by omega)
  rw [ckG_succ] at h2
  exact ⟨x, by omega, h2⟩
theorem Bn_en2 {I : m_I} (h : Bn I) (hV : Vw I) {t k : Nat} (ht : t < 30) (hk : k < vn I t) : enC I t (vw I t) (vq I t) k ≠ -10000 := by
  obtain ⟨x, h1, h2⟩ := Bn_en h hV ht hk
  rw [h2]
  intro z
  have h0 := nI_pos (n := x) (by omega)
  rw [z] at h0
  exact absurd (by decide) h0
/-- what stands still while boards change -/
def St (I : m_I) (pn : Nat) : Prop := Pn I pn ∧ (∀ s, s < 20 → ∀ b, pn ≤ b → b < 32 → bt (I (scI s) 4) b = false) ∧ (∀ s, s < vm I → vp I s < vlc I) ∧ Bn I
theorem St_cong {I I2 : m_I} {pn : Nat} (hm : vm I ≤ 20) (h : St I pn) (h1 : ∀ c d, c < 75 → ¬ (5 ≤ c ∧ c < 65 ∧ (d = 15 ∨ d = 10)) → c ≠ 4 → I2 c d = I c d) (h2 : ∀ t, t < 30 → I2 (dyI t) 0 = I (dyI t) 0) : St I2 pn := by
  obtain ⟨p1, p2, p3, p4, p5, p6, p7, p8⟩ := h
  have e1 : vm I2 = vm I := congrArg vN (h1 1 3 (by decide) (by decide) (by decide))
  have e2 : vlc I2 = vlc I := congrArg vN (h1 69 2 (by decide) (by decide) (by decide))
  have hs : ∀ s d, s < 20 → d ≠ 15 → d ≠ 10 → I2 (scI s) d = I (scI s) d := fun s d hs h3 h4 => h1 _ _ (by unfold scI; omega) (by omega) (by unfold scI; omega)
  refine ⟨⟨(h1 _ _ (by decide) (by decide) (by decide)).trans p1.1, p1.2⟩, fun s hs2 b hb hb2 => ?_, fun s hs2 => ?_, ?_, ?_, fun s hs2 => ?_, fun t ht => ?_, fun k hk => ?_⟩
  · rw [hs s 4 hs2 (by decide) (by decide)]
    exact p2 s hs2 b hb hb2
  · rw [e1] at hs2
    unfold vp
    rw [e2, hs s 0 (by omega) (by decide) (by decide)]
    exact p3 s hs2
  · rw [h1 73 0 (by decide) (by decide) (by decide)]
    exact p4
  · rw [h1 73 1 (by decide) (by decide) (by decide)]
    exact p5
  · rw [hs s 3 hs2 (by decide) (by decide), hs s 14 hs2 (by decide) (by decide)]
    exact p6 s hs2
  · rw [h2 t ht]
    exact p7 t ht
  · rw [h1 71 k (by decide) (by omega) (by decide)]
    exact p8 k hk
theorem and0 {x y : Int32} : x &&& y = 0 ↔ ∀ i, i < 32 → (bt x i && bt y i) = false := by
  refine ⟨fun h i _ => ?_, fun h => b_ext (fun i hi => ?_)⟩
  · rw [← b_and, h, b_0]
  · rw [b_and, h i hi, b_0]
theorem anyB_and {x y : Int32} {pn : Nat} (hp : pn ≤ 32) (h : ∀ i, pn ≤ i → i < 32 → bt x i = false) : (!decide (x &&& y = 0)) = anyB (fun i => bt x i && bt y i) pn := by
  rcases Bool.eq_false_or_eq_true (anyB (fun i => bt x i && bt y i) pn) with z | z
  · rw [z, decide_eq_false (fun e => ?_)]
    · rfl
    · have h2 : anyB (fun i => bt x i && bt y i) pn = false := anyB_f.mpr (fun i hi => and0.mp e i (by omega))
      rw [z] at h2
      cases h2
  · rw [z, decide_eq_true (and0.mpr (fun i hi => ?_))]
    · rfl
    · rcases Nat.lt_or_ge i pn with y2 | y2
      · exact anyB_f.mp z i y2
      · rw [h i y2 hi]; rfl
theorem tdG_bt {ch : Int32} {cl wr : Nat → Int32} {i : Nat} (hi : i < 32) : ∀ k, k ≤ 32 → bt (tdG ch cl wr k) i = (decide (i < k) && (bt ch i && decide (nI 480 < wr i - cl i))) := by
  intro k
  induction k with
  | zero =>
    intro _
    rw [decide_eq_false (Nat.not_lt_zero i)]
    exact b_0 i
  | succ k ih =>
    intro hk
    have h1 := ih (by omega)
    unfold tdG
    by_cases z : bt ch k = true ∧ nI 480 < wr k - cl k
    · rw [if_pos z, b_or, h1, b_one (by omega) hi]
      by_cases e : i = k
      · subst e
        rw [decide_eq_true rfl, Bool.or_true, decide_eq_true (Nat.lt_succ_self i), z.1, decide_eq_true z.2]
        rfl
      · rw [decide_eq_false e, Bool.or_false]
        by_cases e2 : i < k
        · rw [decide_eq_true e2, decide_eq_true (show i < k + 1 by omega)]
        · rw [decide_eq_false e2, decide_eq_false (show ¬ i < k + 1 by omega)]
    · rw [if_neg z, h1]
      by_cases e : i = k
      · subst e
        rw [decide_eq_false (Nat.lt_irrefl i), Bool.false_and]
        rcases Bool.eq_false_or_eq_true (bt ch i) with y | y
        · rw [y, decide_eq_false (fun q => z ⟨y, q⟩)]
          simp
        · rw [y]
          simp
      · by_cases e2 : i < k
        · rw [decide_eq_true e2, decide_eq_true (show i < k + 1 by omega)]
        · rw [decide_eq_false e2, decide_eq_false (show ¬ i < k + 1 by omega)]
theorem wkG_bt {pe : Nat → Int32} {p : Nat} : ∀ k, bt (wkG pe k) p = anyB (fun j => bt (pe j) p) k := by
  intro k
  induction k with
  | zero => exact b_0 p
  | succ k ih =>
    show bt (wkG pe k ||| pe k) p = (_ || _)
    rw [b_or, ih]
theorem clG_cong {pe pe' bg bg' : Nat → Int32} {pr x : Int32} {p k : Nat} (h : ∀ j, j < k → pe j = pe' j ∧ bg j = bg' j) : clG pe bg pr x p k = clG pe' bg' pr x p k := by
  have hw : ∀ i, i ≤ k → wkG pe i = wkG pe' i := by
    intro i
    induction i with
    | zero => exact fun _ => rfl
    | succ i ih =>
      intro hi
      show wkG pe i ||| pe i = wkG pe' i ||| pe' i
      rw [ih (by omega), (h i (by omega)).1]
  induction k with
  | zero => rfl
  | succ k ih =>
    unfold clG
    rw [(h k (by omega)).1, (h k (by omega)).2, hw k (by omega), ih (fun j hj => h j (by omega)) (fun i hi => hw i (by omega))]
theorem wrG_cong {pe pe' en en' : Nat → Int32} {x : Int32} {p k : Nat} (h : ∀ j, j < k → pe j = pe' j ∧ en j = en' j) : wrG pe en x p k = wrG pe' en' x p k := by
  induction k with
  | zero => rfl
  | succ k ih =>
    unfold wrG
    rw [(h k (by omega)).1, (h k (by omega)).2, ih (fun j hj => h j (by omega))]
theorem wrG_w {pe en : Nat → Int32} {x y : Int32} {p k : Nat} (h : bt (wkG pe k) p = true) : wrG pe en x p k = wrG pe en y p k := by
  induction k with
  | zero => exact absurd ((b_0 p).symm.trans h) (by decide)
  | succ k ih =>
    unfold wrG
    by_cases e : bt (pe k) p = true
    · rw [if_pos e, if_pos e]
    · rw [if_neg e, if_neg e]
      refine ih ?_
      have h2 : bt (wkG pe k ||| pe k) p = true := h
      rw [b_or] at h2
      rw [Bool.not_eq_true] at e
      rw [e, Bool.or_false] at h2
      exact h2
/-- the reference's clock stands as the class's of the day t tells -/
def Tk (I J : m_I) (t : Nat) : Prop := ∀ j, j < vn I t → J 174 j = bgC I t (vw I t) (vq I t) j ∧ J 175 j = enC I t (vw I t) (vq I t) j
theorem Tk_rr {I J : m_I} (h : Cr I J) (hV : Vw I) {t : Nat} (ht : t < 30) (J2 : m_I) : Tk I (rrM J2 (bgR J t (vw I t) (vq I t)) (enR J t (vw I t) (vq I t)) (vn I t)) t := fun j hj => by
  rw [← Cr_bg h hV ht hj, ← Cr_en h hV ht hj]
  exact ⟨if_pos ⟨rfl, hj⟩, (if_neg (by omega)).trans (if_pos ⟨rfl, hj⟩)⟩
theorem fa_all {I J : m_I} {t a pn : Nat} (h : Cr I J) (hV : Vw I) (hS : St I pn) (ht : t < 30) (ha : a < vn I t) (hT : Tk I J t) : faR J t (vn I t) (vw I t) (vq I t a) a pn (vm I) = faC I t (vn I t) (vw I t) (vq I t) pn (vm I) a := by
  obtain ⟨hP, hpe, hpl, hB⟩ := hS
  have hm := hV.1
  have hn8 := hV.2.1 t ht
  obtain ⟨s, hs⟩ : ∃ s, s = vw I t a := ⟨_, rfl⟩
  have hs20 : s < 20 := by rw [hs]; exact Vw_w20 hV ht ha
  have hsv : s < vm I := by rw [hs]; exact (hV.2.2.1 t a ht ha).1
  have hsd : I (scI s) 15 = nI t := by rw [hs]; exact (hV.2.2.1 t a ht ha).2
  obtain ⟨K, hK⟩ : ∃ K, K = rdI I t (vn I t) (vw I t) (vq I t) pn := ⟨_, rfl⟩
  have kS : ∀ s b, s < 20 → K (scI s) b = I (scI s) b := fun s b hs => by rw [hK]; exact rdI_sc hs
  have kD : ∀ b, K (dyI t) b = I (dyI t) b := fun b => by rw [hK]; exact rdI_day ht
  have kb : K 76 a = bgC I t (vw I t) (vq I t) a := by rw [hK]; exact rdI_bg ha
  have ke : K 77 a = enC I t (vw I t) (vq I t) a := by rw [hK]; exact rdI_en ha
  have k9 : K 75 9 = tdC I t (vn I t) (vw I t) (vq I t) pn := by rw [hK]; exact rdI_td
  have k10 : K 75 10 = bi (loC2 I t (vn I t) (vw I t) (vq I t)) := by rw [hK]; exact rdI_lo
  have e1 : (!bt (J 166 (vq I t a)) t) = bt (K (dyI t) 4) (vq I t a) := by
    have hpq : vq I t a < vlc I := by
      unfold vq
      rw [← hs]
      exact hpl s hsv
    rw [kD, h.al hpq ht, Bool.not_not]
  have e2 : fa2R J s t a = (wlC K s && dkC K t a) := by
    unfold fa2R wlC dkC
    rw [kS _ _ hs20, kS _ _ hs20, kD, kD, kb, ke, h.bd hs20, h.is hs20, h.s1 ht, h.s2 ht, (hT a ha).1, (hT a ha).2]
  have e3 : anyB (fa3R J s t) pn = !decide (K (scI s) 4 &&& K (dyI t) 3 = 0) := by
    rw [kS _ _ hs20, kD, anyB_and (pn := pn) (by have := hP.2; omega) (fun i h1 h2 => hpe s hs20 i h1 h2)]
    refine anyB_cong (fun p hp => ?_)
    unfold fa3R
    rw [h.pe hs20, h.il (by have := hP.2; omega) ht]
  have e4 : anyB (fa4R J (vw I t) s (vn I t)) pn = !decide (K (scI s) 4 &&& K 75 9 = 0) := by
    rw [kS _ _ hs20, k9, anyB_and (pn := pn) (by have := hP.2; omega) (fun i h1 h2 => hpe s hs20 i h1 h2)]
    refine anyB_cong (fun p hp => ?_)
    have hp8 : p < 8 := by have := hP.2; omega
    unfold fa4R tdC
    rw [tdG_bt (by omega) pn (by have := hP.2; omega), decide_eq_true hp, Bool.true_and, b_and, h.pe hs20, h.ch hp8]
    rcases Bool.eq_false_or_eq_true (bt (I (scI s) 4) p) with z | z
    · have hw : bt (wkG (peC I (vw I t)) (vn I t)) p = true := by
        rw [wkG_bt]
        refine anyB_t (k := a) ha ?_
        show bt (I (scI (vw I t a)) 4) p = true
        rw [← hs]
        exact z
      have q1 : fwR J (vw I t) (vn I t) p = wrC I t (vn I t) (vw I t) (vq I t) p := by
        unfold fwR wrC
        rw [wrG_w (x := I 79 p) (y := -10000) hw]
        exact wrG_cong (fun j hj => ⟨h.pe (Vw_w20 hV ht hj), (hT j hj).2⟩)
      have q2 : fcR J (vw I t) (vn I t) p = clC I t (vn I t) (vw I t) (vq I t) p := by
        unfold fcR clC
        rw [clG_w (x := I 78 p) (y := -10000) hw, h.pr hp8]
        exact clG_cong (fun j hj => ⟨h.pe (Vw_w20 hV ht hj), (hT j hj).1⟩)
      rw [z, hw, q1, q2, Bool.true_and, Bool.true_and, Bool.true_and]
      congr 1
      cases bt (I 65 3) p <;> rfl
    · rw [z, Bool.false_and, Bool.false_and]
  have e5 : anyB (fa5R J (vw I t) s a t) (vm I) = eaC K (vw I t) s a (vm I) := by
    unfold eaC
    refine anyB_cong (fun k hk => ?_)
    unfold fa5R eaP
    have hd : dbR J k (nI t) = dbC K k (K (scI s) 15) := by
      unfold dbR dbC
      rw [kS _ _ (by omega), kS _ _ (by omega), kS _ _ (by omega), kS _ _ hs20, hsd, h.om (by omega), h.sh (by omega), h.dy hk]
    rw [hd, kS s 5 hs20, b_and, b_xor, b_m1 k (by omega), h.bh hs20]
    cases bt (I (scI s) 5) k <;> cases bt (ahG (vw I t) a) k <;> cases dbC K k (K (scI s) 15) <;> rfl
  have e6 : fa6R J t (vn I t) = !decide (K 75 10 = 0) := by
    rw [k10]
    have q : fa6R J t (vn I t) = loC2 I t (vn I t) (vw I t) (vq I t) := by
      unfold fa6R loC2
      have e7 : (ckG (I (dyI t) 0) (laC I (vw I t)) (moC I (vq I t)) (vn I t)).1 = enC I t (vw I t) (vq I t) (vn I t - 1) := by
        obtain ⟨k, hk⟩ : ∃ k, vn I t = k + 1 := ⟨vn I t - 1, by omega⟩
        rw [hk, ckG_succ]
        rfl
      rw [e7, h.s0 ht, (hT (vn I t - 1) (by omega)).2]
    rw [q]
    cases loC2 I t (vn I t) (vw I t) (vq I t) <;> rfl
  unfold faR faC faN fl6 fa1 fa2 fa3 fa4 fa5 fa6
  rw [← hK, ← hs, e1, e2, e3, e4, e5, e6]
/-- the reference's faults of a scene on its day -/
theorem kr_faultsV {S : m_S} {I J : m_I} {lg : Int64} {d t a pn : Nat} (hd : 3 ≤ d) (h : Cr I J) (hV : Vw I) (hS : St I pn) (ht : t < 30) (ha : a < vn I t) (hT : Tk I J t) : m_R S M_X11_faultsOf d [.ref 143, .int (nI (vw I t a))] (hh J lg) (some (.int (nI (faC I t (vn I t) (vw I t) (vq I t) pn (vm I) a)))) (hh J lg) := by
  have hp := h.pq hV ht a ha
  have e := kr_faultsOf (S := S) (lg := lg) hd (h.dq hV ht) (h.m.trans (nI_vN _).symm) (h.pn.trans hS.1.1) hS.1.2 ha hp.1 hp.2 (fun j hj => by rw [(hT j hj).2]; exact Bn_en2 hS.2.2.2 hV ht hj)
  rw [fa_all h hV hS ht ha hT] at e
  exact e
theorem kr_clockV {S : m_S} {I J J2 : m_I} {lg : Int64} {d t : Nat} (hd : 2 ≤ d) (h : Cr I J) (hV : Vw I) (ht : t < 30) (hs : smR J J2) : m_R S M_X11_clock d [.ref 143, .int (nI t)] (hh J2 lg) none (hh (rrM J2 (bgR J t (vw I t) (vq I t)) (enR J t (vw I t) (vq I t)) (vn I t)) lg) := kr_clockS hd (h.dr hV ht) (h.pq hV ht) hs

