-- NAME view
/-! the board as it is read off the heap -/
def vN (x : Int32) : Nat := x.toBitVec.toNat
theorem vN_nI {k : Nat} (h : k < 4294967296) : vN (nI k) = k := by
  show (BitVec.ofNat 32 k).toNat = k
  rw [BitVec.toNat_ofNat]
  exact Nat.mod_eq_of_lt h
theorem nI_vN (x : Int32) : nI (vN x) = x := by
  apply Int32.toBitVec_inj.1
  show BitVec.ofNat 32 x.toBitVec.toNat = x.toBitVec
  rw [BitVec.ofNat_toNat, BitVec.setWidth_eq]
/-- scenes made; of a day how many, which; the place of a scene -/
def vm (I : m_I) : Nat := vN (I 1 3)
def vn (I : m_I) (t : Nat) : Nat := vN (I (dyI t) 6)
def vw (I : m_I) (t j : Nat) : Nat := vN (I (rwI t) j)
def vp (I : m_I) (s : Nat) : Nat := vN (I (scI s) 0)
def vq (I : m_I) (t j : Nat) : Nat := vp I (vw I t j)
/-- rows and days of scenes agree -/
def Vw (I : m_I) : Prop := vm I ≤ 20 ∧ (∀ t, t < 30 → vn I t ≤ 8) ∧ (∀ t j, t < 30 → j < vn I t → vw I t j < vm I ∧ I (scI (vw I t j)) 15 = nI t) ∧ (∀ t i j, t < 30 → i < vn I t → j < vn I t → vw I t i = vw I t j → i = j) ∧ (∀ s, s < vm I → I (scI s) 15 = -1 ∨ ∃ t j, t < 30 ∧ j < vn I t ∧ vw I t j = s) ∧ (∀ s, s < vm I → vp I s < 6)
theorem Vw_Md {I : m_I} (h : Vw I) : Md I (vm I) := ⟨(nI_vN _).symm, h.1⟩
theorem Vw_DyC {I : m_I} (h : Vw I) {t : Nat} (ht : t < 30) : DyC I t (vn I t) (vw I t) (vq I t) :=
  ⟨ht, (nI_vN _).symm, h.2.1 t ht, fun j hj => ⟨(nI_vN _).symm, by have := (h.2.2.1 t j ht hj).1; have := h.1; omega⟩, fun j hj => ⟨(nI_vN _).symm, h.2.2.2.2.2 _ (h.2.2.1 t j ht hj).1⟩⟩
/-- the row told by its slots -/
theorem Vw_mk {I : m_I} {m : Nat} {n : Nat → Nat} {w : Nat → Nat → Nat} (hm : I 1 3 = nI m) (hm2 : m ≤ 20) (hn : ∀ t, t < 30 → I (dyI t) 6 = nI (n t) ∧ n t ≤ 8) (hw : ∀ t j, t < 30 → j < n t → I (rwI t) j = nI (w t j) ∧ w t j < m ∧ I (scI (w t j)) 15 = nI t) (hx : ∀ t i j, t < 30 → i < n t → j < n t → w t i = w t j → i = j) (hf : ∀ s, s < m → I (scI s) 15 = -1 ∨ ∃ t j, t < 30 ∧ j < n t ∧ w t j = s) (hp : ∀ s, s < m → vp I s < 6) : Vw I := by
  have em : vm I = m := by unfold vm; rw [hm]; exact vN_nI (by omega)
  have en : ∀ t, t < 30 → vn I t = n t := fun t ht => by unfold vn; rw [(hn t ht).1]; exact vN_nI (by have := (hn t ht).2; omega)
  have ew : ∀ t j, t < 30 → j < n t → vw I t j = w t j := fun t j ht hj => by unfold vw; rw [(hw t j ht hj).1]; exact vN_nI (by have := (hw t j ht hj).2.1; omega)
  refine ⟨by omega, fun t ht => ?_, fun t j ht hj => ?_, fun t i j ht hi hj e => ?_, fun s hs => ?_, fun s hs => hp s (by omega)⟩
  · rw [en t ht]
    exact (hn t ht).2
  · rw [en t ht] at hj
    rw [ew t j ht hj, em]
    exact (hw t j ht hj).2
  · rw [en t ht] at hi hj
    rw [ew t i ht hi, ew t j ht hj] at e
    exact hx t i j ht hi hj e
  · rcases hf s (by omega) with h | ⟨t, j, h1, h2, h3⟩
    · exact Or.inl h
    · exact Or.inr ⟨t, j, h1, by rw [en t h1]; exact h2, by rw [ew t j h1 h2]; exact h3⟩
theorem Vw_cong {I J : m_I} (h : Vw I) (h1 : J 1 3 = I 1 3) (h2 : ∀ t, t < 30 → J (dyI t) 6 = I (dyI t) 6 ∧ ∀ j, J (rwI t) j = I (rwI t) j) (h3 : ∀ s, s < 20 → J (scI s) 0 = I (scI s) 0 ∧ J (scI s) 15 = I (scI s) 15) : Vw J := by
  have hm := h.1
  refine Vw_mk (m := vm I) (n := vn I) (w := vw I) (h1.trans (nI_vN _).symm) hm (fun t ht => ⟨(h2 t ht).1.trans (nI_vN _).symm, h.2.1 t ht⟩) (fun t j ht hj => ?_) h.2.2.2.1 (fun s hs => ?_) (fun s hs => ?_)
  · obtain ⟨a, b⟩ := h.2.2.1 t j ht hj
    exact ⟨((h2 t ht).2 j).trans (nI_vN _).symm, a, (h3 _ (by omega)).2.trans b⟩
  · rw [(h3 s (by omega)).2]
    exact h.2.2.2.2.1 s hs
  · unfold vp
    rw [(h3 s (by omega)).1]
    exact h.2.2.2.2.2 s hs
theorem puI_ne {I : m_I} {s t a' n a b : Nat} (h : a ≠ rwI t) (h2 : ¬ (a = dyI t ∧ b = 6)) (h3 : ¬ (a = scI s ∧ b = 15)) : puI I s t a' n a b = I a b := (m_up2_ne h3).trans ((m_up2_ne h2).trans ((m_up2_ne (fun z => h z.1)).trans (shI_ne h)))
theorem puI_dy {I : m_I} {s t a n : Nat} : puI I s t a n (scI s) 15 = nI t := m_up2_eq
theorem puI_n {I : m_I} {s t a n : Nat} (hs : s < 20) : puI I s t a n (dyI t) 6 = nI (n + 1) := (m_up2_ne (by unfold dyI scI; omega)).trans m_up2_eq
theorem puI_r {I : m_I} {s t a n j : Nat} (hs : s < 20) : puI I s t a n (rwI t) j = if j = a then nI s else shI I (rwI t) a n (rwI t) j := by
  refine (m_up2_ne (by unfold rwI scI; omega)).trans ((m_up2_ne (by unfold rwI dyI; omega)).trans ?_)
  unfold m_up2
  by_cases e : j = a
  · rw [if_pos e, if_pos ⟨rfl, e⟩]
  · rw [if_neg e, if_neg (fun z => e z.2)]
/-- a row with s put at a -/
def pu1 (w : Nat → Nat) (s a j : Nat) : Nat := if j = a then s else if a < j then w (j - 1) else w j
theorem Vw_put {I : m_I} {s t a : Nat} (h : Vw I) (hs : s < vm I) (ht : t < 30) (hn : vn I t < 8) (ha : a ≤ vn I t) (hd : I (scI s) 15 = -1) : Vw (puI I s t a (vn I t)) := by
  have hm := h.1
  have hs2 : s < 20 := by omega
  have hno : ∀ t' j, t' < 30 → j < vn I t' → vw I t' j ≠ s := fun t' j ht' hj e => by
    have := (h.2.2.1 t' j ht' hj).2
    rw [e, hd] at this
    have h0 := nI_pos (n := t') (by omega)
    rw [← this] at h0
    exact absurd (by decide) h0
  refine Vw_mk (m := vm I) (n := fun i => if i = t then vn I t + 1 else vn I i) (w := fun i j => if i = t then pu1 (vw I t) s a j else vw I i j) ?_ hm (fun i hi => ?_) (fun i j hi hj => ?_) (fun i j k hi hj hk e => ?_) (fun x hx => ?_) (fun x hx => ?_)
  · exact (puI_ne (by unfold rwI; omega) (by unfold dyI; omega) (by unfold scI; omega)).trans (nI_vN _).symm
  · by_cases e : i = t
    · subst e
      simp only [if_pos]
      exact ⟨puI_n hs2, by omega⟩
    · simp only [if_neg e]
      exact ⟨(puI_ne (by unfold rwI dyI; omega) (by unfold dyI; omega) (by unfold dyI scI; omega)).trans (nI_vN _).symm, h.2.1 i hi⟩
  · by_cases e : i = t
    · subst e
      simp only [if_pos] at hj ⊢
      rw [puI_r hs2]
      unfold pu1
      by_cases e1 : j = a
      · rw [if_pos e1, if_pos e1]
        exact ⟨rfl, hs, puI_dy⟩
      · rw [if_neg e1, if_neg e1]
        by_cases e2 : a < j
        · obtain ⟨q1, q2⟩ := h.2.2.1 i (j - 1) ht (by omega)
          have q3 := hno i (j - 1) ht (by omega)
          rw [if_pos e2, shI_in e2 (by omega)]
          exact ⟨(nI_vN _).symm, q1, (puI_ne (by unfold rwI scI; omega) (by unfold dyI scI; omega) (by unfold scI; omega)).trans q2⟩
        · obtain ⟨q1, q2⟩ := h.2.2.1 i j ht (by omega)
          have q3 := hno i j ht (by omega)
          rw [if_neg e2, shI_lo (by omega)]
          exact ⟨(nI_vN _).symm, q1, (puI_ne (by unfold rwI scI; omega) (by unfold dyI scI; omega) (by unfold scI; omega)).trans q2⟩
    · simp only [if_neg e] at hj ⊢
      obtain ⟨q1, q2⟩ := h.2.2.1 i j hi hj
      have q3 := hno i j hi hj
      exact ⟨(puI_ne (by unfold rwI; omega) (by unfold rwI dyI; omega) (by unfold rwI scI; omega)).trans (nI_vN _).symm, q1, (puI_ne (by unfold rwI scI; omega) (by unfold dyI scI; omega) (by unfold scI; omega)).trans q2⟩
  · by_cases e1 : i = t
    · subst e1
      simp only [if_pos] at hj hk e
      unfold pu1 at e
      have hno2 := fun j => hno i j ht
      have hin := fun j k => h.2.2.2.1 i j k ht
      repeat' split at e
      · omega
      · exact absurd e.symm (hno2 _ (by omega))
      · exact absurd e.symm (hno2 _ (by omega))
      · exact absurd e (hno2 _ (by omega))
      · have := hin _ _ (by omega) (by omega) e
        omega
      · have := hin _ _ (by omega) (by omega) e
        omega
      · exact absurd e (hno2 _ (by omega))
      · have := hin _ _ (by omega) (by omega) e
        omega
      · exact hin _ _ (by omega) (by omega) e
    · simp only [if_neg e1] at hj hk e
      exact h.2.2.2.1 i j k hi hj hk e
  · by_cases e : x = s
    · subst e
      exact Or.inr ⟨t, a, ht, by simp only [if_pos]; omega, by simp only [if_pos]; unfold pu1; rw [if_pos rfl]⟩
    · rcases h.2.2.2.2.1 x hx with q | ⟨i, j, q1, q2, q3⟩
      · exact Or.inl ((puI_ne (by unfold rwI scI; omega) (by unfold dyI scI; omega) (by unfold scI; omega)).trans q)
      · refine Or.inr ?_
        by_cases e1 : i = t
        · subst e1
          by_cases e2 : j < a
          · exact ⟨i, j, q1, by simp only [if_pos]; omega, by simp only [if_pos]; unfold pu1; rw [if_neg (by omega), if_neg (by omega)]; exact q3⟩
          · exact ⟨i, j + 1, q1, by simp only [if_pos]; omega, by simp only [if_pos]; unfold pu1; rw [if_neg (by omega), if_pos (by omega)]; exact q3⟩
        · exact ⟨i, j, q1, by simp only [if_neg e1]; exact q2, by simp only [if_neg e1]; exact q3⟩
  · unfold vp
    rw [puI_ne (by unfold rwI scI; omega) (by unfold dyI scI; omega) (by omega)]
    exact h.2.2.2.2.2 x hx
theorem toI_dy {I : m_I} {s t j n : Nat} : toI I s t j n (scI s) 15 = -1 := m_up2_eq
theorem toI_n {I : m_I} {s t j n : Nat} (hs : s < 20) : toI I s t j n (dyI t) 6 = nI (n - 1) := (m_up2_ne (by unfold dyI scI; omega)).trans m_up2_eq
theorem toI_r {I : m_I} {s t j n b : Nat} (hs : s < 20) : toI I s t j n (rwI t) b = deI I (rwI t) j n (rwI t) b := (m_up2_ne (by unfold rwI scI; omega)).trans (m_up2_ne (by unfold rwI dyI; omega))
/-- a row without what stood at a -/
def de1 (w : Nat → Nat) (a j : Nat) : Nat := if j < a then w j else w (j + 1)
theorem Vw_take {I : m_I} {s t a : Nat} (h : Vw I) (ht : t < 30) (ha : a < vn I t) (hs : vw I t a = s) : Vw (toI I s t a (vn I t)) := by
  have hm := h.1
  have hs1 : s < vm I := by rw [← hs]; exact (h.2.2.1 t a ht ha).1
  have hs2 : s < 20 := by omega
  have hno : ∀ t' j, t' < 30 → j < vn I t' → vw I t' j = s → t' = t ∧ j = a := fun t' j ht' hj e => by
    have e1 := (h.2.2.1 t' j ht' hj).2
    have e2 := (h.2.2.1 t a ht ha).2
    rw [e] at e1
    rw [hs, e1] at e2
    have e3 : t' = t := by
      have e4 := congrArg vN e2
      rwa [vN_nI (by omega), vN_nI (by omega)] at e4
    subst e3
    exact ⟨rfl, h.2.2.2.1 t' j a ht hj ha (e.trans hs.symm)⟩
  refine Vw_mk (m := vm I) (n := fun i => if i = t then vn I t - 1 else vn I i) (w := fun i j => if i = t then de1 (vw I t) a j else vw I i j) ?_ hm (fun i hi => ?_) (fun i j hi hj => ?_) (fun i j k hi hj hk e => ?_) (fun x hx => ?_) (fun x hx => ?_)
  · exact (toI_ne (by unfold rwI; omega) (by unfold dyI; omega) (by unfold scI; omega)).trans (nI_vN _).symm
  · by_cases e : i = t
    · subst e
      simp only [if_pos]
      exact ⟨toI_n hs2, by have := h.2.1 i ht; omega⟩
    · simp only [if_neg e]
      exact ⟨(toI_ne (by unfold rwI dyI; omega) (by unfold dyI; omega) (by unfold dyI scI; omega)).trans (nI_vN _).symm, h.2.1 i hi⟩
  · by_cases e : i = t
    · subst e
      simp only [if_pos] at hj ⊢
      rw [toI_r hs2]
      unfold de1
      by_cases e1 : j < a
      · obtain ⟨q1, q2⟩ := h.2.2.1 i j ht (by omega)
        have q3 : vw I i j ≠ s := fun z => by have := (hno i j ht (by omega) z).2; omega
        rw [if_pos e1, deI_lo e1]
        exact ⟨(nI_vN _).symm, q1, (toI_ne (by unfold rwI scI; omega) (by unfold dyI scI; omega) (by unfold scI; omega)).trans q2⟩
      · obtain ⟨q1, q2⟩ := h.2.2.1 i (j + 1) ht (by omega)
        have q3 : vw I i (j + 1) ≠ s := fun z => by have := (hno i (j + 1) ht (by omega) z).2; omega
        rw [if_neg e1, deI_in (by omega) (by omega)]
        exact ⟨(nI_vN _).symm, q1, (toI_ne (by unfold rwI scI; omega) (by unfold dyI scI; omega) (by unfold scI; omega)).trans q2⟩
    · simp only [if_neg e] at hj ⊢
      obtain ⟨q1, q2⟩ := h.2.2.1 i j hi hj
      have q3 : vw I i j ≠ s := fun z => e (hno i j hi hj z).1
      exact ⟨(toI_ne (by unfold rwI; omega) (by unfold rwI dyI; omega) (by unfold rwI scI; omega)).trans (nI_vN _).symm, q1, (toI_ne (by unfold rwI scI; omega) (by unfold dyI scI; omega) (by unfold scI; omega)).trans q2⟩
  · by_cases e1 : i = t
    · subst e1
      simp only [if_pos] at hj hk e
      unfold de1 at e
      have hin := fun j k => h.2.2.2.1 i j k ht
      repeat' split at e
      all_goals
        have := hin _ _ (by omega) (by omega) e
        omega
    · simp only [if_neg e1] at hj hk e
      exact h.2.2.2.1 i j k hi hj hk e
  · by_cases e : x = s
    · subst e
      exact Or.inl toI_dy
    · rcases h.2.2.2.2.1 x hx with q | ⟨i, j, q1, q2, q3⟩
      · exact Or.inl ((toI_ne (by unfold rwI scI; omega) (by unfold dyI scI; omega) (by unfold scI; omega)).trans q)
      · refine Or.inr ?_
        by_cases e1 : i = t
        · subst e1
          have e2 : j ≠ a := fun z => e (by rw [← q3, z]; exact hs)
          by_cases e3 : j < a
          · exact ⟨i, j, q1, by simp only [if_pos]; omega, by simp only [if_pos]; unfold de1; rw [if_pos e3]; exact q3⟩
          · exact ⟨i, j - 1, q1, by simp only [if_pos]; omega, by simp only [if_pos]; unfold de1; rw [if_neg (by omega), show j - 1 + 1 = j by omega]; exact q3⟩
        · exact ⟨i, j, q1, by simp only [if_neg e1]; exact q2, by simp only [if_neg e1]; exact q3⟩
  · unfold vp
    rw [toI_ne (by unfold rwI scI; omega) (by unfold dyI scI; omega) (by omega)]
    exact h.2.2.2.2.2 x hx
/-- a day's clock read: nothing of the board changes -/
def rdV (I : m_I) (t pn : Nat) : m_I := rdI I t (vn I t) (vw I t) (vq I t) pn
theorem rdV_ne {I : m_I} {t pn a b : Nat} (h : a ≠ 76 ∧ a ≠ 77 ∧ a ≠ 78 ∧ a ≠ 79) (h2 : a ≠ 75 ∨ b < 8) : rdV I t pn a b = I a b := rdI_ne h h2
theorem Vw_rd {I : m_I} {t pn : Nat} (h : Vw I) : Vw (rdV I t pn) :=
  Vw_cong h (rdV_ne (by decide) (Or.inl (by decide))) (fun t ht => ⟨rdI_day ht, fun j => rdI_row ht⟩) (fun s hs => ⟨rdI_sc hs, rdI_sc hs⟩)
/-- taken off wherever it stands -/
theorem k_takeV {S : m_S} {I : m_I} {lg : Int64} {d s t j : Nat} (hd : 2 ≤ d) (h : Vw I) (ht : t < 30) (hj : j < vn I t) (hs : vw I t j = s) : m_R S M_X0_takeOff d [.ref 72, .int (nI s)] (hh I lg) none (hh (toI I s t j (vn I t)) lg) := by
  obtain ⟨q1, q2⟩ := h.2.2.1 t j ht hj
  have hm := h.1
  rw [hs] at q1 q2
  refine k_takeOff hd (by omega) ht q2 (nI_vN _).symm (h.2.1 t ht) hj (by rw [← hs]; exact (nI_vN _).symm) (fun i hi hne e => hne ?_)
  refine h.2.2.2.1 t i j ht hi hj ?_
  rw [hs]
  unfold vw
  rw [e]
  exact vN_nI (by omega)

