-- NAME mended
/-! mend: the ones taken off -/
def ilB (I : m_I) (t s : Nat) : Bool := decide (I (scI s) 12 = 0) && !decide (I (scI s) 4 &&& I (dyI t) 3 = 0)
def tkA (I : m_I) (t : Nat) : Nat → m_I × Nat
  | 0 => (I, 0)
  | k + 1 => if ilB I t (vw I t k) then (m_up2 (tkA I t k).1 141 (tkA I t k).2 (nI (vw I t k)), (tkA I t k).2 + 1) else tkA I t k
theorem tkA_y {I : m_I} {t k : Nat} (h : ilB I t (vw I t k) = true) : tkA I t (k + 1) = (m_up2 (tkA I t k).1 141 (tkA I t k).2 (nI (vw I t k)), (tkA I t k).2 + 1) := if_pos h
theorem tkA_n {I : m_I} {t k : Nat} (h : ilB I t (vw I t k) = false) : tkA I t (k + 1) = tkA I t k := if_neg (by rw [h]; decide)
theorem tkA_ne {I : m_I} {t a b : Nat} (ha : a ≠ 141) : ∀ k, (tkA I t k).1 a b = I a b := by
  intro k
  induction k with
  | zero => rfl
  | succ k ih =>
    rcases Bool.eq_false_or_eq_true (ilB I t (vw I t k)) with e | e
    · rw [tkA_y e]
      exact (m_up2_ne (fun z => ha z.1)).trans ih
    · rw [tkA_n e]
      exact ih
theorem tkA_le {I : m_I} {t : Nat} : ∀ k, (tkA I t k).2 ≤ k := by
  intro k
  induction k with
  | zero => exact Nat.le_refl _
  | succ k ih =>
    rcases Bool.eq_false_or_eq_true (ilB I t (vw I t k)) with e | e
    · rw [tkA_y e]
      exact Nat.succ_le_succ ih
    · rw [tkA_n e]
      omega
/-- the ones taken: from the row, each once -/
theorem tkA_in {I : m_I} {t : Nat} (h : Vw I) (ht : t < 30) : ∀ k, k ≤ vn I t → (∀ i, i < (tkA I t k).2 → ∃ j, j < k ∧ (tkA I t k).1 141 i = nI (vw I t j)) ∧ ∀ i i', i < (tkA I t k).2 → i' < (tkA I t k).2 → (tkA I t k).1 141 i = (tkA I t k).1 141 i' → i = i' := by
  intro k
  induction k with
  | zero => exact fun _ => ⟨fun i hi => absurd hi (Nat.not_lt_zero i), fun i _ hi => absurd hi (Nat.not_lt_zero i)⟩
  | succ k ih =>
    intro hk
    obtain ⟨h1, h2⟩ := ih (by omega)
    have hm := h.1
    rcases Bool.eq_false_or_eq_true (ilB I t (vw I t k)) with e | e
    · rw [tkA_y e]
      have hnew : ∀ i, i < (tkA I t k).2 → (tkA I t k).1 141 i ≠ nI (vw I t k) := fun i hi z => by
        obtain ⟨j, hj, e1⟩ := h1 i hi
        have e2 := congrArg vN (e1.symm.trans z)
        rw [vN_nI (by have := (h.2.2.1 t j ht (by omega)).1; omega), vN_nI (by have := (h.2.2.1 t k ht (by omega)).1; omega)] at e2
        have := h.2.2.2.1 t j k ht (by omega) (by omega) e2
        omega
      have hold : ∀ i, i < (tkA I t k).2 → m_up2 (tkA I t k).1 141 (tkA I t k).2 (nI (vw I t k)) 141 i = (tkA I t k).1 141 i := fun i hi => m_up2_ne (by omega)
      refine ⟨fun i hi => ?_, fun i i' hi hi' e1 => ?_⟩
      · by_cases e3 : i = (tkA I t k).2
        · exact ⟨k, by omega, by rw [e3]; exact m_up2_eq⟩
        · have hi2 : i < (tkA I t k).2 := by
            have : i < (tkA I t k).2 + 1 := hi
            omega
          obtain ⟨j, hj, e4⟩ := h1 i hi2
          exact ⟨j, by omega, (hold i hi2).trans e4⟩
      · have hi1 : i < (tkA I t k).2 + 1 := hi
        have hi1' : i' < (tkA I t k).2 + 1 := hi'
        have e1' : m_up2 (tkA I t k).1 141 (tkA I t k).2 (nI (vw I t k)) 141 i = m_up2 (tkA I t k).1 141 (tkA I t k).2 (nI (vw I t k)) 141 i' := e1
        by_cases e3 : i = (tkA I t k).2
        · by_cases e4 : i' = (tkA I t k).2
          · omega
          · rw [hold i' (by omega), e3, m_up2_eq] at e1'
            exact absurd e1'.symm (hnew i' (by omega))
        · by_cases e4 : i' = (tkA I t k).2
          · rw [hold i (by omega), e4, m_up2_eq] at e1'
            exact absurd e1' (hnew i (by omega))
          · rw [hold i (by omega), hold i' (by omega)] at e1'
            exact h2 i i' (by omega) (by omega) e1'
    · rw [tkA_n e]
      exact ⟨fun i hi => by obtain ⟨j, hj, e4⟩ := h1 i hi; exact ⟨j, by omega, e4⟩, h2⟩
theorem on_row {I : m_I} {s t : Nat} (h : Vw I) (hs : s < vm I) (ht : t < 30) (hd : I (scI s) 15 = nI t) : ∃ j, j < vn I t ∧ vw I t j = s := by
  rcases h.2.2.2.2.1 s hs with q | ⟨t', j, h1, h2, h3⟩
  · have h0 := nI_pos (n := t) (by omega)
    rw [← hd, q] at h0
    exact absurd (by decide) h0
  · have e := (h.2.2.1 t' j h1 h2).2
    rw [h3, hd] at e
    have e2 := congrArg vN e
    rw [vN_nI (by omega), vN_nI (by omega)] at e2
    subst e2
    exact ⟨j, h2, h3⟩
/-- where a scene stands in a day's row -/
def at1 (I : m_I) (t s : Nat) : Nat := fst1 (fun j => decide (vw I t j = s)) (vn I t)
theorem at1_ok {I : m_I} {s t j : Nat} (hj : j < vn I t) (he : vw I t j = s) : at1 I t s < vn I t ∧ vw I t (at1 I t s) = s := by
  obtain ⟨h1, h2, h3⟩ := fst1_ok (fun j => decide (vw I t j = s)) (vn I t)
  have h4 : at1 I t s < vn I t := by
    refine Nat.lt_of_not_le fun z => ?_
    have := h2 j (Nat.lt_of_lt_of_le hj z)
    rw [decide_eq_true he] at this
    exact absurd this (by decide)
  exact ⟨h4, of_decide_eq_true (h3 h4)⟩
def tkB (J : m_I) (t : Nat) : Nat → m_I
  | 0 => J
  | k + 1 => toI (tkB J t k) (vN (J 141 k)) t (at1 (tkB J t k) t (vN (J 141 k))) (vn (tkB J t k) t)
theorem tkB_ne {J : m_I} {t a b : Nat} (h : a ≠ rwI t) (h2 : ¬ (a = dyI t ∧ b = 6)) (h3 : ∀ s, ¬ (a = scI s ∧ b = 15)) : ∀ k, tkB J t k a b = J a b := by
  intro k
  induction k with
  | zero => rfl
  | succ k ih => exact (toI_ne h h2 (h3 _)).trans ih
theorem tkB_ok {J : m_I} {t c : Nat} (h : Vw J) (ht : t < 30) (hc : ∀ i, i < c → vN (J 141 i) < vm J ∧ J (scI (vN (J 141 i))) 15 = nI t) (hx : ∀ i i', i < c → i' < c → J 141 i = J 141 i' → i = i') : ∀ k, k ≤ c → Vw (tkB J t k) ∧ (∀ i, k ≤ i → i < c → tkB J t k (scI (vN (J 141 i))) 15 = nI t) ∧ (∀ i, i < k → tkB J t k (scI (vN (J 141 i))) 15 = -1) ∧ vm (tkB J t k) = vm J := by
  intro k
  induction k with
  | zero => exact fun _ => ⟨h, fun i _ hi => (hc i hi).2, fun i hi => absurd hi (Nat.not_lt_zero i), rfl⟩
  | succ k ih =>
    intro hk
    obtain ⟨h1, h2, h3, h4⟩ := ih (by omega)
    obtain ⟨j, hj, he⟩ := on_row (s := vN (J 141 k)) h1 (by rw [h4]; exact (hc k (by omega)).1) ht (h2 k (Nat.le_refl _) (by omega))
    obtain ⟨g1, g2⟩ := at1_ok hj he
    have hdis : ∀ i, i < c → i ≠ k → vN (J 141 i) ≠ vN (J 141 k) := fun i hi hne z => hne (hx i k hi (by omega) (by rw [← nI_vN (J 141 i), z, nI_vN]))
    have hkeep : ∀ i, i < c → i ≠ k → tkB J t (k + 1) (scI (vN (J 141 i))) 15 = tkB J t k (scI (vN (J 141 i))) 15 := fun i hi hne => by
      have := hdis i hi hne
      have hm := h.1
      have h5 := (hc i hi).1
      exact toI_ne (by unfold scI rwI; omega) (by unfold scI dyI; omega) (by unfold scI; omega)
    refine ⟨Vw_take h1 ht g1 g2, fun i hi hi2 => (hkeep i hi2 (by omega)).trans (h2 i (by omega) hi2), fun i hi => ?_, ?_⟩
    · by_cases e : i = k
      · rw [e]
        exact toI_dy
      · exact (hkeep i (by omega) e).trans (h3 i (by omega))
    · refine Eq.trans (congrArg vN ?_) h4
      exact toI_ne (by unfold rwI; omega) (by unfold dyI; omega) (by unfold scI; omega)

