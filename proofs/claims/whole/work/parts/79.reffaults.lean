-- NAME reffaults
/-! the reference: what is behind, faults -/
def dbR (I : m_I) (i : Nat) (dy : Int32) : Bool := decide (¬ I 155 i = 0 ∨ ¬ I 156 i = 0 ∨ (¬ I 159 i = -1 ∧ I 159 i < dy))
/-- the row of the day t, as the days of its scenes tell it -/
def Dq (I : m_I) (t n : Nat) (w : Nat → Nat) (m : Nat) : Prop := Dr I t n w ∧ m ≤ 20 ∧ (∀ j, j < n → w j < m ∧ I 159 (w j) = nI t) ∧ (∀ i j, i < n → j < n → w i = w j → i = j) ∧ ∀ s, s < m → I 159 s = nI t → ∃ j, j < n ∧ w j = s
theorem ahG_bt {w : Nat → Nat} {i : Nat} (hi : i < 32) : ∀ k, (∀ j, j < k → w j < 32) → (bt (ahG w k) i = true ↔ ∃ j, j < k ∧ w j = i) := by
  intro k
  induction k with
  | zero => exact fun _ => ⟨fun z => absurd ((b_0 i).symm.trans z) (by decide), fun ⟨j, hj, _⟩ => absurd hj (Nat.not_lt_zero j)⟩
  | succ k ih =>
    intro hw
    have e : bt (ahG w (k + 1)) i = (bt (ahG w k) i || decide (i = w k)) := by
      show bt (ahG w k ||| _) i = _
      rw [b_or, b_one (hw k (by omega)) hi]
    rw [e, Bool.or_eq_true, ih (fun j hj => hw j (by omega)), decide_eq_true_iff]
    refine ⟨fun z => ?_, fun ⟨j, h1, h2⟩ => ?_⟩
    · rcases z with ⟨j, h1, h2⟩ | z
      · exact ⟨j, by omega, h2⟩
      · exact ⟨k, by omega, z.symm⟩
    · by_cases h3 : j = k
      · rw [h3] at h2
        exact Or.inr h2.symm
      · exact Or.inl ⟨j, by omega, h2⟩
theorem ahG_f {w : Nat → Nat} {i k : Nat} (hi : i < 32) (hw : ∀ j, j < k → w j < 32) (h : ∀ j, j < k → w j ≠ i) : bt (ahG w k) i = false := by
  rcases Bool.eq_false_or_eq_true (bt (ahG w k) i) with z | z
  · obtain ⟨j, h1, h2⟩ := (ahG_bt hi k hw).mp z
    exact absurd h2 (h j h1)
  · exact z
theorem kr_isBehind {S : m_S} {I : m_I} {lg : Int64} {d t n m a k : Nat} {w : Nat → Nat} (hd : 2 ≤ d) (hq9 : Dq I t n w m) (ha : a < n) (hk : k < m) : m_R S M_X11_isBehind d [.ref 143, .int (nI (w a)), .int (nI k)] (hh I lg) (some (.int (bi (dbR I k (nI t) || bt (ahG w a) k)))) (hh I lg) := by
  obtain ⟨hD, hm, hw, hx, ho⟩ := hq9
  have ht := hD.1
  have hn8 := hD.2.2.1
  have hwa := hw a ha
  have hsd := hwa.2
  have hah : ∀ j, j < a → w j < 32 := fun j hj => by have := (hw j (by omega)).1; omega
  have hpo : ∀ b, b < n → m_R S M_X11_placeOn (d - 1) [.ref 143, .int (nI (w b)), .int (nI t)] (hh I lg) (some (.int (nI b))) (hh I lg) := fun b hb => kr_placeOn hD hb (fun j hj e => by have := hx j b (by omega) hb e; omega)
  refine ms_aload_n dX11_isBehind_0 rfl ?_
  refine q_getr dX11_isBehind_1 fX11_47 kd_11_16 (by first | decide | exact lt_sc (by omega) | exact lt_dy (by omega) | exact lt_rw (by omega) | exact lt_wa (by omega) | exact lt_le (by omega)) (by first | rfl | rw [sh_sc (by omega)] | rw [sh_dy (by omega)]) (by first | rfl | exact rf_wa (by omega) | exact rf_le (by omega) | exact rf_rw (by omega)) ?_
  refine ms_iload_n dX11_isBehind_4 rfl ?_
  refine q_zald dX11_isBehind_5 (by first | decide | exact lt_sc (by omega) | exact lt_dy (by omega) | exact lt_rw (by omega) | exact lt_wa (by omega) | exact lt_le (by omega)) (by first | rfl | exact sh_rw (by omega) | exact sh_wa (by omega) | exact sh_le (by omega)) (by omega) (by decide) rfl ?_
  refine ms_if_ne (tgt := 18) dX11_isBehind_6 (by decide) (fun c6 => ?_) (fun c6 => ?_)
  · refine ms_iconst (v := nI 1) dX11_isBehind_18 (by decide) ?_
    refine ms_zret dX11_isBehind_19 rfl rfl (by first | exact Or.inl (by decide) | exact Or.inr (by decide) | assumption | exact bi_01 _) ⟨?_, ?_⟩
    · rw [show dbR I k (nI t) = true from decide_eq_true (Or.inr (Or.inl c6)), Bool.true_or]; rfl
    · rfl
  · refine ms_aload_n dX11_isBehind_9 rfl ?_
    refine q_getr dX11_isBehind_10 fX11_44 kd_11_15 (by first | decide | exact lt_sc (by omega) | exact lt_dy (by omega) | exact lt_rw (by omega) | exact lt_wa (by omega) | exact lt_le (by omega)) (by first | rfl | rw [sh_sc (by omega)] | rw [sh_dy (by omega)]) (by first | rfl | exact rf_wa (by omega) | exact rf_le (by omega) | exact rf_rw (by omega)) ?_
    refine ms_iload_n dX11_isBehind_13 rfl ?_
    refine q_zald dX11_isBehind_14 (by first | decide | exact lt_sc (by omega) | exact lt_dy (by omega) | exact lt_rw (by omega) | exact lt_wa (by omega) | exact lt_le (by omega)) (by first | rfl | exact sh_rw (by omega) | exact sh_wa (by omega) | exact sh_le (by omega)) (by omega) (by decide) rfl ?_
    refine ms_if_eq (tgt := 20) dX11_isBehind_15 (by decide) (fun c15 => ?_) (fun c15 => ?_)
    · refine ms_aload_n dX11_isBehind_20 rfl ?_
      refine q_getr dX11_isBehind_21 fX11_56 kd_11_19 (by first | decide | exact lt_sc (by omega) | exact lt_dy (by omega) | exact lt_rw (by omega) | exact lt_wa (by omega) | exact lt_le (by omega)) (by first | rfl | rw [sh_sc (by omega)] | rw [sh_dy (by omega)]) (by first | rfl | exact rf_wa (by omega) | exact rf_le (by omega) | exact rf_rw (by omega)) ?_
      refine ms_iload_n dX11_isBehind_24 rfl ?_
      refine q_iald dX11_isBehind_25 (by first | decide | exact lt_sc (by omega) | exact lt_dy (by omega) | exact lt_rw (by omega) | exact lt_wa (by omega) | exact lt_le (by omega)) (by first | rfl | exact sh_rw (by omega) | exact sh_wa (by omega) | exact sh_le (by omega)) (by omega) (by decide) rfl ?_
      refine ms_iconst (v := -1) dX11_isBehind_26 (by decide) ?_
      refine ms_icmp_eq (tgt := 89) dX11_isBehind_27 (by decide) (fun c27 => ?_) (fun c27 => ?_)
      · have e1 : dbR I k (nI t) = false := decide_eq_false (fun z => z.elim (fun y => y c15) (fun z => z.elim (fun y => y c6) (fun y => y.1 c27)))
        have e2 : bt (ahG w a) k = false := ahG_f (by omega) hah (fun j hj e => by
          have h1 := (hw j (by omega)).2
          rw [e, c27] at h1
          have h0 := nI_pos (n := t) (by omega)
          rw [← h1] at h0
          exact absurd (by decide) h0)
        refine ms_iconst (v := nI 0) dX11_isBehind_89 (by decide) ?_
        refine ms_zret dX11_isBehind_90 rfl rfl (by first | exact Or.inl (by decide) | exact Or.inr (by decide) | assumption | exact bi_01 _) ⟨?_, ?_⟩
        · rw [e1, e2]; rfl
        · rfl
      · refine ms_aload_n dX11_isBehind_30 rfl ?_
        refine q_getr dX11_isBehind_31 fX11_56 kd_11_19 (by first | decide | exact lt_sc (by omega) | exact lt_dy (by omega) | exact lt_rw (by omega) | exact lt_wa (by omega) | exact lt_le (by omega)) (by first | rfl | rw [sh_sc (by omega)] | rw [sh_dy (by omega)]) (by first | rfl | exact rf_wa (by omega) | exact rf_le (by omega) | exact rf_rw (by omega)) ?_
        refine ms_iload_n dX11_isBehind_34 rfl ?_
        refine q_iald dX11_isBehind_35 (by first | decide | exact lt_sc (by omega) | exact lt_dy (by omega) | exact lt_rw (by omega) | exact lt_wa (by omega) | exact lt_le (by omega)) (by first | rfl | exact sh_rw (by omega) | exact sh_wa (by omega) | exact sh_le (by omega)) (by omega) (by decide) rfl ?_
        refine ms_aload_n dX11_isBehind_36 rfl ?_
        refine q_getr dX11_isBehind_37 fX11_56 kd_11_19 (by first | decide | exact lt_sc (by omega) | exact lt_dy (by omega) | exact lt_rw (by omega) | exact lt_wa (by omega) | exact lt_le (by omega)) (by first | rfl | rw [sh_sc (by omega)] | rw [sh_dy (by omega)]) (by first | rfl | exact rf_wa (by omega) | exact rf_le (by omega) | exact rf_rw (by omega)) ?_
        refine ms_iload_n dX11_isBehind_40 rfl ?_
        refine q_iald dX11_isBehind_41 (by first | decide | exact lt_sc (by omega) | exact lt_dy (by omega) | exact lt_rw (by omega) | exact lt_wa (by omega) | exact lt_le (by omega)) (by first | rfl | exact sh_rw (by omega) | exact sh_wa (by omega) | exact sh_le (by omega)) (by omega) (by decide) hsd ?_
        refine ms_icmp_lt (tgt := 85) dX11_isBehind_42 (by decide) (fun c42 => ?_) (fun c42 => ?_)
        · refine ms_iconst (v := nI 1) dX11_isBehind_85 (by decide) ?_
          refine ms_goto (tgt := 90) dX11_isBehind_86 (by decide) ?_
          refine ms_zret dX11_isBehind_90 rfl rfl (by first | exact Or.inl (by decide) | exact Or.inr (by decide) | assumption | exact bi_01 _) ⟨?_, ?_⟩
          · rw [show dbR I k (nI t) = true from decide_eq_true (Or.inr (Or.inr ⟨c27, c42⟩)), Bool.true_or]; rfl
          · rfl
        · have e1 : dbR I k (nI t) = false := decide_eq_false (fun z => z.elim (fun y => y c15) (fun z => z.elim (fun y => y c6) (fun y => c42 y.2)))
          refine ms_aload_n dX11_isBehind_45 rfl ?_
          refine q_getr dX11_isBehind_46 fX11_56 kd_11_19 (by first | decide | exact lt_sc (by omega) | exact lt_dy (by omega) | exact lt_rw (by omega) | exact lt_wa (by omega) | exact lt_le (by omega)) (by first | rfl | rw [sh_sc (by omega)] | rw [sh_dy (by omega)]) (by first | rfl | exact rf_wa (by omega) | exact rf_le (by omega) | exact rf_rw (by omega)) ?_
          refine ms_iload_n dX11_isBehind_49 rfl ?_
          refine q_iald dX11_isBehind_50 (by first | decide | exact lt_sc (by omega) | exact lt_dy (by omega) | exact lt_rw (by omega) | exact lt_wa (by omega) | exact lt_le (by omega)) (by first | rfl | exact sh_rw (by omega) | exact sh_wa (by omega) | exact sh_le (by omega)) (by omega) (by decide) rfl ?_
          refine ms_aload_n dX11_isBehind_51 rfl ?_
          refine q_getr dX11_isBehind_52 fX11_56 kd_11_19 (by first | decide | exact lt_sc (by omega) | exact lt_dy (by omega) | exact lt_rw (by omega) | exact lt_wa (by omega) | exact lt_le (by omega)) (by first | rfl | rw [sh_sc (by omega)] | rw [sh_dy (by omega)]) (by first | rfl | exact rf_wa (by omega) | exact rf_le (by omega) | exact rf_rw (by omega)) ?_
          refine ms_iload_n dX11_isBehind_55 rfl ?_
          refine q_iald dX11_isBehind_56 (by first | decide | exact lt_sc (by omega) | exact lt_dy (by omega) | exact lt_rw (by omega) | exact lt_wa (by omega) | exact lt_le (by omega)) (by first | rfl | exact sh_rw (by omega) | exact sh_wa (by omega) | exact sh_le (by omega)) (by omega) (by decide) hsd ?_
          refine ms_icmp_ne (tgt := 89) dX11_isBehind_57 (by decide) (fun c57 => ?_) (fun c57 => ?_)
          · have e2 : bt (ahG w a) k = false := ahG_f (by omega) hah (fun j hj e => by
              have h1 := (hw j (by omega)).2
              rw [e] at h1
              exact c57 h1)
            refine ms_iconst (v := nI 0) dX11_isBehind_89 (by decide) ?_
            refine ms_zret dX11_isBehind_90 rfl rfl (by first | exact Or.inl (by decide) | exact Or.inr (by decide) | assumption | exact bi_01 _) ⟨?_, ?_⟩
            · rw [e1, e2]; rfl
            · rfl
          · obtain ⟨b, hb, e⟩ := ho k hk c57
            subst e
            refine ms_aload_n dX11_isBehind_60 rfl ?_
            refine ms_iload_n dX11_isBehind_61 rfl ?_
            refine ms_aload_n dX11_isBehind_62 rfl ?_
            refine q_getr dX11_isBehind_63 fX11_56 kd_11_19 (by first | decide | exact lt_sc (by omega) | exact lt_dy (by omega) | exact lt_rw (by omega) | exact lt_wa (by omega) | exact lt_le (by omega)) (by first | rfl | rw [sh_sc (by omega)] | rw [sh_dy (by omega)]) (by first | rfl | exact rf_wa (by omega) | exact rf_le (by omega) | exact rf_rw (by omega)) ?_
            refine ms_iload_n dX11_isBehind_66 rfl ?_
            refine q_iald dX11_isBehind_67 (by first | decide | exact lt_sc (by omega) | exact lt_dy (by omega) | exact lt_rw (by omega) | exact lt_wa (by omega) | exact lt_le (by omega)) (by first | rfl | exact sh_rw (by omega) | exact sh_wa (by omega) | exact sh_le (by omega)) (by omega) (by decide) hsd ?_
            refine qRV2 dX11_isBehind_68 kX11_181 (by show _ < 178; first | decide | exact lt_sc (by omega) | exact lt_dy (by omega)) (by show (sh0 _).1 = _; first | rfl | rw [sh_sc (by omega)] | rw [sh_dy (by omega)]) (d := d - 1) (by show d - 1 + 1 ≤ d; omega) rfl rfl (Nat.le_of_ble_eq_true rfl) (Nat.le_of_ble_eq_true rfl) (hpo b hb) rfl ?_
            refine ms_aload_n dX11_isBehind_71 rfl ?_
            refine ms_iload_n dX11_isBehind_72 rfl ?_
            refine ms_aload_n dX11_isBehind_73 rfl ?_
            refine q_getr dX11_isBehind_74 fX11_56 kd_11_19 (by first | decide | exact lt_sc (by omega) | exact lt_dy (by omega) | exact lt_rw (by omega) | exact lt_wa (by omega) | exact lt_le (by omega)) (by first | rfl | rw [sh_sc (by omega)] | rw [sh_dy (by omega)]) (by first | rfl | exact rf_wa (by omega) | exact rf_le (by omega) | exact rf_rw (by omega)) ?_
            refine ms_iload_n dX11_isBehind_77 rfl ?_
            refine q_iald dX11_isBehind_78 (by first | decide | exact lt_sc (by omega) | exact lt_dy (by omega) | exact lt_rw (by omega) | exact lt_wa (by omega) | exact lt_le (by omega)) (by first | rfl | exact sh_rw (by omega) | exact sh_wa (by omega) | exact sh_le (by omega)) (by omega) (by decide) hsd ?_
            refine qRV2 dX11_isBehind_79 kX11_181 (by show _ < 178; first | decide | exact lt_sc (by omega) | exact lt_dy (by omega)) (by show (sh0 _).1 = _; first | rfl | rw [sh_sc (by omega)] | rw [sh_dy (by omega)]) (d := d - 1) (by show d - 1 + 1 ≤ d; omega) rfl rfl (Nat.le_of_ble_eq_true rfl) (Nat.le_of_ble_eq_true rfl) (hpo a ha) rfl ?_
            refine n_icmp_ge (tgt := 89) dX11_isBehind_82 (by decide) (by omega) (by omega) (fun c82 => ?_) (fun c82 => ?_)
            · have e2 : bt (ahG w a) (w b) = false := ahG_f (by omega) hah (fun j hj e => by have := hx j b (by omega) hb e; omega)
              refine ms_iconst (v := nI 0) dX11_isBehind_89 (by decide) ?_
              refine ms_zret dX11_isBehind_90 rfl rfl (by first | exact Or.inl (by decide) | exact Or.inr (by decide) | assumption | exact bi_01 _) ⟨?_, ?_⟩
              · rw [e1, e2]; rfl
              · rfl
            · have e2 : bt (ahG w a) (w b) = true := (ahG_bt (by omega) a hah).mpr ⟨b, by omega, rfl⟩
              refine ms_iconst (v := nI 1) dX11_isBehind_85 (by decide) ?_
              refine ms_goto (tgt := 90) dX11_isBehind_86 (by decide) ?_
              refine ms_zret dX11_isBehind_90 rfl rfl (by first | exact Or.inl (by decide) | exact Or.inr (by decide) | assumption | exact bi_01 _) ⟨?_, ?_⟩
              · rw [e1, e2]; rfl
              · rfl
    · refine ms_iconst (v := nI 1) dX11_isBehind_18 (by decide) ?_
      refine ms_zret dX11_isBehind_19 rfl rfl (by first | exact Or.inl (by decide) | exact Or.inr (by decide) | assumption | exact bi_01 _) ⟨?_, ?_⟩
      · rw [show dbR I k (nI t) = true from decide_eq_true (Or.inl c15), Bool.true_or]; rfl
      · rfl
def fl6 (b1 b2 b3 b4 b5 b6 : Bool) : Nat := b2n b1 1 + b2n b2 2 + b2n b3 4 + b2n b4 8 + b2n b5 16 + b2n b6 32
theorem fl6_2 : ∀ b1 c : Bool, nI (fl6 b1 false false false false false) ||| (if c then nI 2 else nI 0) = nI (fl6 b1 c false false false false) := by decide +kernel
theorem fl6_3 : ∀ b1 b2 b3 b4 c : Bool, nI (fl6 b1 b2 b3 b4 false false) ||| (if c then nI 4 else nI 0) = nI (fl6 b1 b2 (b3 || c) b4 false false) := by decide +kernel
theorem fl6_4 : ∀ b1 b2 b3 b4 c : Bool, nI (fl6 b1 b2 b3 b4 false false) ||| (if c then nI 8 else nI 0) = nI (fl6 b1 b2 b3 (b4 || c) false false) := by decide +kernel
theorem fl6_5 : ∀ b1 b2 b3 b4 b5 c : Bool, nI (fl6 b1 b2 b3 b4 b5 false) ||| (if c then nI 16 else nI 0) = nI (fl6 b1 b2 b3 b4 (b5 || c) false) := by decide +kernel
theorem fl6_6 : ∀ b1 b2 b3 b4 b5 c : Bool, nI (fl6 b1 b2 b3 b4 b5 false) ||| (if c then nI 32 else nI 0) = nI (fl6 b1 b2 b3 b4 b5 c) := by decide +kernel
def fa2R (I : m_I) (s t a : Nat) : Bool := decide (¬ I 148 s = 0 ∧ I 149 s = 0) && decide (I 174 a < I 169 t ∨ I 170 t < I 175 a)
def fa3R (I : m_I) (s t p : Nat) : Bool := bt (I 151 s) p && bt (I 164 p) t
def fwR (I : m_I) (w : Nat → Nat) (n p : Nat) : Int32 := wrG (fun j => I 151 (w j)) (fun j => I 175 j) (-10000) p n
def fcR (I : m_I) (w : Nat → Nat) (n p : Nat) : Int32 := clG (fun j => I 151 (w j)) (fun j => I 174 j) (I 162 p) (-10000) p n
def fa4R (I : m_I) (w : Nat → Nat) (s n p : Nat) : Bool := bt (I 151 s) p && (!decide (I 163 p = 0) && decide (nI 480 < fwR I w n p - fcR I w n p))
def fa5R (I : m_I) (w : Nat → Nat) (s a t k : Nat) : Bool := bt (I 154 s) k && !(dbR I k (nI t) || bt (ahG w a) k)
def fa6R (I : m_I) (t n : Nat) : Bool := decide (I 168 t + nI 720 < I 175 (n - 1))
def faR (I : m_I) (t n : Nat) (w : Nat → Nat) (p a pn m : Nat) : Nat := fl6 (!bt (I 166 p) t) (fa2R I (w a) t a) (anyB (fa3R I (w a) t) pn) (anyB (fa4R I w (w a) n) pn) (anyB (fa5R I w (w a) a t) m) (fa6R I t n)
theorem kr_faultsOf {S : m_S} {I : m_I} {lg : Int64} {d t n m a p pn : Nat} {w : Nat → Nat} (hd : 3 ≤ d) (hq9 : Dq I t n w m) (hm : I 143 3 = nI m) (hpn : I 143 22 = nI pn) (hpn2 : pn ≤ 8) (ha : a < n) (hp : I 147 (w a) = nI p) (hp2 : p < 6) (hen : ∀ j, j < n → I 175 j ≠ -10000) : m_R S M_X11_faultsOf d [.ref 143, .int (nI (w a))] (hh I lg) (some (.int (nI (faR I t n w p a pn m)))) (hh I lg) := by
  have hq8 := hq9
  obtain ⟨hD, hm2, hw, hx, ho⟩ := hq9
  have ht := hD.1
  have hn8 := hD.2.2.1
  have hnI := hD.2.1
  have hsd := (hw a ha).2
  have hwa := (hw a ha).1
  have hpo : m_R S M_X11_placeOn (d - 1) [.ref 143, .int (nI (w a)), .int (nI t)] (hh I lg) (some (.int (nI a))) (hh I lg) := kr_placeOn hD ha (fun j hj e => by have := hx j a (by omega) ha e; omega)
  have hco : ∀ (wr : Bool) (p : Nat), p < 8 → m_R S M_X11_callOf (d - 1) [.ref 143, .int (nI p), .int (nI t), .int (bi wr)] (hh I lg) (some (.int (if wr then fwR I w n p else fcR I w n p))) (hh I lg) := fun wr p hp => kr_callOf (pe := fun j => I 151 (w j)) (bg := fun j => I 174 j) (en := fun j => I 175 j) wr (by omega) hD hp (fun _ _ => rfl) (fun j hj => ⟨rfl, rfl, hen j hj⟩) rfl
  obtain ⟨b1, hb1⟩ : ∃ z, z = !bt (I 166 p) t := ⟨_, rfl⟩
  obtain ⟨b2, hb2⟩ : ∃ z, z = fa2R I (w a) t a := ⟨_, rfl⟩
  obtain ⟨b3, hb3⟩ : ∃ z, z = anyB (fa3R I (w a) t) := ⟨_, rfl⟩
  obtain ⟨b4, hb4⟩ : ∃ z, z = anyB (fa4R I w (w a) n) := ⟨_, rfl⟩
  obtain ⟨b5, hb5⟩ : ∃ z, z = anyB (fa5R I w (w a) a t) := ⟨_, rfl⟩
  obtain ⟨b6, hb6⟩ : ∃ z, z = fa6R I t n := ⟨_, rfl⟩
  obtain ⟨r, hr⟩ : ∃ z, z = nI (fl6 b1 b2 (b3 pn) (b4 pn) (b5 m) b6) := ⟨_, rfl⟩
  have hgoal : nI (faR I t n w p a pn m) = r := by rw [hr, hb1, hb2, hb3, hb4, hb5, hb6]; rfl
  rw [hgoal]
  have h3s : ∀ k, b3 (k + 1) = (b3 k || fa3R I (w a) t k) := fun k => by rw [hb3]; rfl
  have h4s : ∀ k, b4 (k + 1) = (b4 k || fa4R I w (w a) n k) := fun k => by rw [hb4]; rfl
  have h5s : ∀ k, b5 (k + 1) = (b5 k || fa5R I w (w a) a t k) := fun k => by rw [hb5]; rfl
  have end1 : ∀ (d5 d6 : Option Value), m_W S (M_X11_faultsOf, d, fun w9 g => w9 = some (.int r) ∧ g = hh I lg, fun _ _ => False) 259 [some (.ref 143), some (.int (nI (w a))), some (.int (nI t)), some (.int (nI a)), some (.int (nI (fl6 b1 b2 (b3 pn) (b4 pn) (b5 m) false))), d5, d6] [] (hh I lg) 0 0 := by
    intro d5 d6
    refine ms_iload dX11_faultsOf_259 rfl ?_
    refine ms_aload_n dX11_faultsOf_261 rfl ?_
    refine q_getr dX11_faultsOf_262 fX11_104 kd_11_39 (by first | decide | exact lt_sc (by omega) | exact lt_dy (by omega) | exact lt_rw (by omega) | exact lt_wa (by omega) | exact lt_le (by omega)) (by first | rfl | rw [sh_sc (by omega)] | rw [sh_dy (by omega)]) (by first | rfl | exact rf_wa (by omega) | exact rf_le (by omega) | exact rf_rw (by omega)) ?_
    refine ms_aload_n dX11_faultsOf_265 rfl ?_
    refine q_getr dX11_faultsOf_266 fX11_95 kd_11_36 (by first | decide | exact lt_sc (by omega) | exact lt_dy (by omega) | exact lt_rw (by omega) | exact lt_wa (by omega) | exact lt_le (by omega)) (by first | rfl | rw [sh_sc (by omega)] | rw [sh_dy (by omega)]) (by first | rfl | exact rf_wa (by omega) | exact rf_le (by omega) | exact rf_rw (by omega)) ?_
    refine ms_iload_n dX11_faultsOf_269 rfl ?_
    refine q_iald dX11_faultsOf_270 (by first | decide | exact lt_sc (by omega) | exact lt_dy (by omega) | exact lt_rw (by omega) | exact lt_wa (by omega) | exact lt_le (by omega)) (by first | rfl | exact sh_rw (by omega) | exact sh_wa (by omega) | exact sh_le (by omega)) (by omega) (by decide) hnI ?_
    refine ms_iconst (v := nI 1) dX11_faultsOf_271 (by decide) ?_
    refine n_isub dX11_faultsOf_272 (by omega) ?_
    refine q_iald dX11_faultsOf_273 (by first | decide | exact lt_sc (by omega) | exact lt_dy (by omega) | exact lt_rw (by omega) | exact lt_wa (by omega) | exact lt_le (by omega)) (by first | rfl | exact sh_rw (by omega) | exact sh_wa (by omega) | exact sh_le (by omega)) (by omega) (by decide) rfl ?_
    refine ms_aload_n dX11_faultsOf_274 rfl ?_
    refine q_getr dX11_faultsOf_275 fX11_83 kd_11_32 (by first | decide | exact lt_sc (by omega) | exact lt_dy (by omega) | exact lt_rw (by omega) | exact lt_wa (by omega) | exact lt_le (by omega)) (by first | rfl | rw [sh_sc (by omega)] | rw [sh_dy (by omega)]) (by first | rfl | exact rf_wa (by omega) | exact rf_le (by omega) | exact rf_rw (by omega)) ?_
    refine ms_iload_n dX11_faultsOf_278 rfl ?_
    refine q_iald dX11_faultsOf_279 (by first | decide | exact lt_sc (by omega) | exact lt_dy (by omega) | exact lt_rw (by omega) | exact lt_wa (by omega) | exact lt_le (by omega)) (by first | rfl | exact sh_rw (by omega) | exact sh_wa (by omega) | exact sh_le (by omega)) (by omega) (by decide) rfl ?_
    refine ms_sipush (v := nI 720) dX11_faultsOf_280 (by decide) ?_
    refine ms_iadd dX11_faultsOf_283 ?_
    refine ms_icmp_le (tgt := 292) dX11_faultsOf_284 (by decide) (fun c284 => ?_) (fun c284 => ?_)
    · have e : b6 = false := by rw [hb6]; exact decide_eq_false (Int32.not_lt.mpr c284)
      refine ms_iconst (v := nI 0) dX11_faultsOf_292 (by decide) ?_
      refine ms_ior dX11_faultsOf_293 ?_
      refine ms_iret dX11_faultsOf_294 rfl rfl ⟨?_, ?_⟩
      · rw [hr, e]; exact congrArg (fun z => some (Value.int z)) (fl6_6 b1 b2 (b3 pn) (b4 pn) (b5 m) false)
      · rfl
    · have e : b6 = true := by rw [hb6]; exact decide_eq_true (Int32.not_le.mp c284)
      refine ms_bipush (v := nI 32) dX11_faultsOf_287 (by decide) ?_
      refine ms_goto (tgt := 293) dX11_faultsOf_289 (by decide) ?_
      refine ms_ior dX11_faultsOf_293 ?_
      refine ms_iret dX11_faultsOf_294 rfl rfl ⟨?_, ?_⟩
      · rw [hr, e]; exact congrArg (fun z => some (Value.int z)) (fl6_6 b1 b2 (b3 pn) (b4 pn) (b5 m) true)
      · rfl
  have loopB : ∀ (q k : Nat) (d6 : Option Value), k ≤ m → m - k < q → m_W S (M_X11_faultsOf, d, fun w9 g9 => w9 = some (.int r) ∧ g9 = hh (I) lg, fun _ _ => False) 209 [some (.ref 143), some (.int (nI (w a))), some (.int (nI t)), some (.int (nI a)), some (.int (nI (fl6 b1 b2 (b3 pn) (b4 pn) (b5 k) false))), some (.int (nI k)), d6] [] (hh (I) lg) 0 0 := by
    intro q
    induction q with
    | zero => intro k d6 _ h; omega
    | succ q ih =>
      intro k d6 hk hq
      refine ms_iload dX11_faultsOf_209 rfl ?_
      refine ms_aload_n dX11_faultsOf_211 rfl ?_
      refine q_geti dX11_faultsOf_212 fX11_114 (by rw [kd_11_3]; decide) (by first | decide | exact lt_sc (by omega) | exact lt_dy (by omega) | exact lt_rw (by omega) | exact lt_wa (by omega) | exact lt_le (by omega)) (by first | rfl | rw [sh_sc (by omega)] | rw [sh_dy (by omega)]) hm ?_
      refine n_icmp_ge (tgt := 259) dX11_faultsOf_215 (by decide) (by omega) (by omega) (fun c215 => ?_) (fun c215 => ?_)
      · obtain rfl : k = m := by omega
        exact end1 _ _
      · have h9 := ih (k + 1) d6 (by omega) (by omega)
        have back : ∀ x : Int32, x = nI (fl6 b1 b2 (b3 pn) (b4 pn) (b5 (k + 1)) false) → m_W S (M_X11_faultsOf, d, fun w9 g => w9 = some (.int r) ∧ g = hh I lg, fun _ _ => False) 251 [some (.ref 143), some (.int (nI (w a))), some (.int (nI t)), some (.int (nI a)), some (.int (nI (fl6 b1 b2 (b3 pn) (b4 pn) (b5 k) false))), some (.int (nI k)), d6] [.int x] (hh I lg) 0 0 := by
          intro x hx
          subst hx
          refine ms_istore dX11_faultsOf_251 (Nat.le_of_ble_eq_true rfl) ?_
          refine n_iinc dX11_faultsOf_253 rfl ?_
          refine ms_goto (tgt := 209) dX11_faultsOf_256 (by decide) ?_
          exact h9
        refine ms_iload dX11_faultsOf_218 rfl ?_
        refine ms_aload_n dX11_faultsOf_220 rfl ?_
        refine q_getr dX11_faultsOf_221 fX11_41 kd_11_14 (by first | decide | exact lt_sc (by omega) | exact lt_dy (by omega) | exact lt_rw (by omega) | exact lt_wa (by omega) | exact lt_le (by omega)) (by first | rfl | rw [sh_sc (by omega)] | rw [sh_dy (by omega)]) (by first | rfl | exact rf_wa (by omega) | exact rf_le (by omega) | exact rf_rw (by omega)) ?_
        refine ms_iload_n dX11_faultsOf_224 rfl ?_
        refine q_iald dX11_faultsOf_225 (by first | decide | exact lt_sc (by omega) | exact lt_dy (by omega) | exact lt_rw (by omega) | exact lt_wa (by omega) | exact lt_le (by omega)) (by first | rfl | exact sh_rw (by omega) | exact sh_wa (by omega) | exact sh_le (by omega)) (by omega) (by decide) rfl ?_
        refine ms_iload dX11_faultsOf_226 rfl ?_
        refine qRS2 dX11_faultsOf_228 kX11_158 (d := d - 1) (by show d - 1 + 1 ≤ d; omega) rfl rfl (Nat.le_of_ble_eq_true rfl) (Nat.le_of_ble_eq_true rfl) (kr_has (by omega)) rfl ?_
        refine ms_if_eq (tgt := 249) dX11_faultsOf_231 (by decide) (fun c231 => ?_) (fun c231 => ?_)
        · have e : fa5R I w (w a) a t k = false := by unfold fa5R; rw [bi_0.mp c231]; rfl
          refine ms_iconst (v := nI 0) dX11_faultsOf_249 (by decide) ?_
          refine ms_ior dX11_faultsOf_250 ?_
          refine back _ ?_
          rw [h5s, e]
          exact fl6_5 b1 b2 (b3 pn) (b4 pn) (b5 k) false
        · refine ms_aload_n dX11_faultsOf_234 rfl ?_
          refine ms_iload_n dX11_faultsOf_235 rfl ?_
          refine ms_iload dX11_faultsOf_236 rfl ?_
          refine qRV2 dX11_faultsOf_238 kX11_189 (by show _ < 178; first | decide | exact lt_sc (by omega) | exact lt_dy (by omega)) (by show (sh0 _).1 = _; first | rfl | rw [sh_sc (by omega)] | rw [sh_dy (by omega)]) (d := d - 1) (by show d - 1 + 1 ≤ d; omega) rfl rfl (Nat.le_of_ble_eq_true rfl) (Nat.le_of_ble_eq_true rfl) (kr_isBehind (by omega) hq8 ha (by omega)) rfl ?_
          refine ms_if_ne (tgt := 249) dX11_faultsOf_241 (by decide) (fun c241 => ?_) (fun c241 => ?_)
          · have e : fa5R I w (w a) a t k = false := by unfold fa5R; rw [bi_n0.mp c241, Bool.not_true, Bool.and_false]
            refine ms_iconst (v := nI 0) dX11_faultsOf_249 (by decide) ?_
            refine ms_ior dX11_faultsOf_250 ?_
            refine back _ ?_
            rw [h5s, e]
            exact fl6_5 b1 b2 (b3 pn) (b4 pn) (b5 k) false
          · have e : fa5R I w (w a) a t k = true := by unfold fa5R; rw [bi_n0.mp c231, bi_0.mp c241]; rfl
            refine ms_bipush (v := nI 16) dX11_faultsOf_244 (by decide) ?_
            refine ms_goto (tgt := 250) dX11_faultsOf_246 (by decide) ?_
            refine ms_ior dX11_faultsOf_250 ?_
            refine back _ ?_
            rw [h5s, e]
            exact fl6_5 b1 b2 (b3 pn) (b4 pn) (b5 k) true
  have loopA : ∀ (q k : Nat) (d6 : Option Value), k ≤ pn → pn - k < q → m_W S (M_X11_faultsOf, d, fun w9 g9 => w9 = some (.int r) ∧ g9 = hh (I) lg, fun _ _ => False) 100 [some (.ref 143), some (.int (nI (w a))), some (.int (nI t)), some (.int (nI a)), some (.int (nI (fl6 b1 b2 (b3 k) (b4 k) false false))), some (.int (nI k)), d6] [] (hh (I) lg) 0 0 := by
    intro q
    induction q with
    | zero => intro k d6 _ h; omega
    | succ q ih =>
      intro k d6 hk hq
      refine ms_iload dX11_faultsOf_100 rfl ?_
      refine ms_aload_n dX11_faultsOf_102 rfl ?_
      refine q_geti dX11_faultsOf_103 fX11_121 (by rw [kd_11_22]; decide) (by first | decide | exact lt_sc (by omega) | exact lt_dy (by omega) | exact lt_rw (by omega) | exact lt_wa (by omega) | exact lt_le (by omega)) (by first | rfl | rw [sh_sc (by omega)] | rw [sh_dy (by omega)]) hpn ?_
      refine n_icmp_ge (tgt := 206) dX11_faultsOf_106 (by decide) (by omega) (by omega) (fun c106 => ?_) (fun c106 => ?_)
      · obtain rfl : k = pn := by omega
        have h8 := loopB (m + 1) 0 d6 (by omega) (by omega)
        rw [show b5 0 = false by rw [hb5]; rfl] at h8
        refine ms_iconst (v := nI 0) dX11_faultsOf_206 (by decide) ?_
        refine ms_istore dX11_faultsOf_207 (Nat.le_of_ble_eq_true rfl) ?_
        exact h8
      · have h9 := fun d6 => ih (k + 1) d6 (by omega) (by omega)
        have back : ∀ (x : Int32) (d6 : Option Value), x = nI (fl6 b1 b2 (b3 (k + 1)) (b4 (k + 1)) false false) → m_W S (M_X11_faultsOf, d, fun w9 g => w9 = some (.int r) ∧ g = hh I lg, fun _ _ => False) 198 [some (.ref 143), some (.int (nI (w a))), some (.int (nI t)), some (.int (nI a)), some (.int (nI (fl6 b1 b2 (b3 (k + 1)) (b4 k) false false))), some (.int (nI k)), d6] [.int x] (hh I lg) 0 0 := by
          intro x d6 hx
          subst hx
          refine ms_istore dX11_faultsOf_198 (Nat.le_of_ble_eq_true rfl) ?_
          refine n_iinc dX11_faultsOf_200 rfl ?_
          refine ms_goto (tgt := 100) dX11_faultsOf_203 (by decide) ?_
          exact h9 d6
        have mid : ∀ x : Int32, x = nI (fl6 b1 b2 (b3 (k + 1)) (b4 k) false false) → m_W S (M_X11_faultsOf, d, fun w9 g => w9 = some (.int r) ∧ g = hh I lg, fun _ _ => False) 149 [some (.ref 143), some (.int (nI (w a))), some (.int (nI t)), some (.int (nI a)), some (.int (nI (fl6 b1 b2 (b3 k) (b4 k) false false))), some (.int (nI k)), some (.int (bi (bt (I 151 (w a)) k)))] [.int x] (hh I lg) 0 0 := by
          intro x hx
          subst hx
          refine ms_istore dX11_faultsOf_149 (Nat.le_of_ble_eq_true rfl) ?_
          refine ms_iload dX11_faultsOf_151 rfl ?_
          refine ms_iload dX11_faultsOf_153 rfl ?_
          refine ms_if_eq (tgt := 196) dX11_faultsOf_155 (by decide) (fun c155 => ?_) (fun c155 => ?_)
          · have e : fa4R I w (w a) n k = false := by unfold fa4R; rw [bi_0.mp c155]; rfl
            refine ms_iconst (v := nI 0) dX11_faultsOf_196 (by decide) ?_
            refine ms_ior dX11_faultsOf_197 ?_
            refine back _ _ ?_
            rw [h4s, e]
            exact fl6_4 b1 b2 (b3 (k + 1)) (b4 k) false
          · refine ms_aload_n dX11_faultsOf_158 rfl ?_
            refine q_getr dX11_faultsOf_159 fX11_68 kd_11_26 (by first | decide | exact lt_sc (by omega) | exact lt_dy (by omega) | exact lt_rw (by omega) | exact lt_wa (by omega) | exact lt_le (by omega)) (by first | rfl | rw [sh_sc (by omega)] | rw [sh_dy (by omega)]) (by first | rfl | exact rf_wa (by omega) | exact rf_le (by omega) | exact rf_rw (by omega)) ?_
            refine ms_iload dX11_faultsOf_162 rfl ?_
            refine q_zald dX11_faultsOf_164 (by first | decide | exact lt_sc (by omega) | exact lt_dy (by omega) | exact lt_rw (by omega) | exact lt_wa (by omega) | exact lt_le (by omega)) (by first | rfl | exact sh_rw (by omega) | exact sh_wa (by omega) | exact sh_le (by omega)) (by omega) (by decide) rfl ?_
            refine ms_if_eq (tgt := 196) dX11_faultsOf_165 (by decide) (fun c165 => ?_) (fun c165 => ?_)
            · have e : fa4R I w (w a) n k = false := by unfold fa4R; rw [decide_eq_true c165, Bool.not_true, Bool.false_and, Bool.and_false]
              refine ms_iconst (v := nI 0) dX11_faultsOf_196 (by decide) ?_
              refine ms_ior dX11_faultsOf_197 ?_
              refine back _ _ ?_
              rw [h4s, e]
              exact fl6_4 b1 b2 (b3 (k + 1)) (b4 k) false
            · refine ms_aload_n dX11_faultsOf_168 rfl ?_
              refine ms_iload dX11_faultsOf_169 rfl ?_
              refine ms_iload_n dX11_faultsOf_171 rfl ?_
              refine ms_iconst (v := nI 1) dX11_faultsOf_172 (by decide) ?_
              refine qRV3 dX11_faultsOf_173 kX11_185 (by show _ < 178; first | decide | exact lt_sc (by omega) | exact lt_dy (by omega)) (by show (sh0 _).1 = _; first | rfl | rw [sh_sc (by omega)] | rw [sh_dy (by omega)]) (d := d - 1) (by show d - 1 + 1 ≤ d; omega) rfl rfl rfl (Nat.le_of_ble_eq_true rfl) (Nat.le_of_ble_eq_true rfl) (hco true k (by omega)) rfl ?_
              refine ms_aload_n dX11_faultsOf_176 rfl ?_
              refine ms_iload dX11_faultsOf_177 rfl ?_
              refine ms_iload_n dX11_faultsOf_179 rfl ?_
              refine ms_iconst (v := nI 0) dX11_faultsOf_180 (by decide) ?_
              refine qRV3 dX11_faultsOf_181 kX11_185 (by show _ < 178; first | decide | exact lt_sc (by omega) | exact lt_dy (by omega)) (by show (sh0 _).1 = _; first | rfl | rw [sh_sc (by omega)] | rw [sh_dy (by omega)]) (d := d - 1) (by show d - 1 + 1 ≤ d; omega) rfl rfl rfl (Nat.le_of_ble_eq_true rfl) (Nat.le_of_ble_eq_true rfl) (hco false k (by omega)) rfl ?_
              refine ms_isub dX11_faultsOf_184 ?_
              refine ms_sipush (v := nI 480) dX11_faultsOf_185 (by decide) ?_
              refine ms_icmp_le (tgt := 196) dX11_faultsOf_188 (by decide) (fun c188 => ?_) (fun c188 => ?_)
              · have c9 : fwR I w n k - fcR I w n k ≤ nI 480 := c188
                have e : fa4R I w (w a) n k = false := by unfold fa4R; rw [decide_eq_false (Int32.not_lt.mpr c9), Bool.and_false, Bool.and_false]
                refine ms_iconst (v := nI 0) dX11_faultsOf_196 (by decide) ?_
                refine ms_ior dX11_faultsOf_197 ?_
                refine back _ _ ?_
                rw [h4s, e]
                exact fl6_4 b1 b2 (b3 (k + 1)) (b4 k) false
              · have c9 : ¬ fwR I w n k - fcR I w n k ≤ nI 480 := c188
                have e : fa4R I w (w a) n k = true := by unfold fa4R; rw [bi_n0.mp c155, decide_eq_false c165, decide_eq_true (Int32.not_le.mp c9)]; rfl
                refine ms_bipush (v := nI 8) dX11_faultsOf_191 (by decide) ?_
                refine ms_goto (tgt := 197) dX11_faultsOf_193 (by decide) ?_
                refine ms_ior dX11_faultsOf_197 ?_
                refine back _ _ ?_
                rw [h4s, e]
                exact fl6_4 b1 b2 (b3 (k + 1)) (b4 k) true
        refine ms_aload_n dX11_faultsOf_109 rfl ?_
        refine q_getr dX11_faultsOf_110 fX11_32 kd_11_11 (by first | decide | exact lt_sc (by omega) | exact lt_dy (by omega) | exact lt_rw (by omega) | exact lt_wa (by omega) | exact lt_le (by omega)) (by first | rfl | rw [sh_sc (by omega)] | rw [sh_dy (by omega)]) (by first | rfl | exact rf_wa (by omega) | exact rf_le (by omega) | exact rf_rw (by omega)) ?_
        refine ms_iload_n dX11_faultsOf_113 rfl ?_
        refine q_iald dX11_faultsOf_114 (by first | decide | exact lt_sc (by omega) | exact lt_dy (by omega) | exact lt_rw (by omega) | exact lt_wa (by omega) | exact lt_le (by omega)) (by first | rfl | exact sh_rw (by omega) | exact sh_wa (by omega) | exact sh_le (by omega)) (by omega) (by decide) rfl ?_
        refine ms_iload dX11_faultsOf_115 rfl ?_
        refine qRS2 dX11_faultsOf_117 kX11_158 (d := d - 1) (by show d - 1 + 1 ≤ d; omega) rfl rfl (Nat.le_of_ble_eq_true rfl) (Nat.le_of_ble_eq_true rfl) (kr_has (by omega)) rfl ?_
        refine ms_istore dX11_faultsOf_120 (Nat.le_of_ble_eq_true rfl) ?_
        refine ms_iload dX11_faultsOf_122 rfl ?_
        refine ms_iload dX11_faultsOf_124 rfl ?_
        refine ms_if_eq (tgt := 147) dX11_faultsOf_126 (by decide) (fun c126 => ?_) (fun c126 => ?_)
        · have e : fa3R I (w a) t k = false := by unfold fa3R; rw [bi_0.mp c126]; rfl
          refine ms_iconst (v := nI 0) dX11_faultsOf_147 (by decide) ?_
          refine ms_ior dX11_faultsOf_148 ?_
          refine mid _ ?_
          rw [h3s, e]
          exact fl6_3 b1 b2 (b3 k) (b4 k) false
        · refine ms_aload_n dX11_faultsOf_129 rfl ?_
          refine q_getr dX11_faultsOf_130 fX11_71 kd_11_27 (by first | decide | exact lt_sc (by omega) | exact lt_dy (by omega) | exact lt_rw (by omega) | exact lt_wa (by omega) | exact lt_le (by omega)) (by first | rfl | rw [sh_sc (by omega)] | rw [sh_dy (by omega)]) (by first | rfl | exact rf_wa (by omega) | exact rf_le (by omega) | exact rf_rw (by omega)) ?_
          refine ms_iload dX11_faultsOf_133 rfl ?_
          refine q_iald dX11_faultsOf_135 (by first | decide | exact lt_sc (by omega) | exact lt_dy (by omega) | exact lt_rw (by omega) | exact lt_wa (by omega) | exact lt_le (by omega)) (by first | rfl | exact sh_rw (by omega) | exact sh_wa (by omega) | exact sh_le (by omega)) (by omega) (by decide) rfl ?_
          refine ms_iload_n dX11_faultsOf_136 rfl ?_
          refine qRS2 dX11_faultsOf_137 kX11_158 (d := d - 1) (by show d - 1 + 1 ≤ d; omega) rfl rfl (Nat.le_of_ble_eq_true rfl) (Nat.le_of_ble_eq_true rfl) (kr_has (by omega)) rfl ?_
          refine ms_if_eq (tgt := 147) dX11_faultsOf_140 (by decide) (fun c140 => ?_) (fun c140 => ?_)
          · have e : fa3R I (w a) t k = false := by unfold fa3R; rw [bi_0.mp c140, Bool.and_false]
            refine ms_iconst (v := nI 0) dX11_faultsOf_147 (by decide) ?_
            refine ms_ior dX11_faultsOf_148 ?_
            refine mid _ ?_
            rw [h3s, e]
            exact fl6_3 b1 b2 (b3 k) (b4 k) false
          · have e : fa3R I (w a) t k = true := by unfold fa3R; rw [bi_n0.mp c126, bi_n0.mp c140]; rfl
            refine ms_iconst (v := nI 4) dX11_faultsOf_143 (by decide) ?_
            refine ms_goto (tgt := 148) dX11_faultsOf_144 (by decide) ?_
            refine ms_ior dX11_faultsOf_148 ?_
            refine mid _ ?_
            rw [h3s, e]
            exact fl6_3 b1 b2 (b3 k) (b4 k) true
  have J2 : ∀ x : Int32, x = nI (fl6 b1 b2 false false false false) → m_W S (M_X11_faultsOf, d, fun w9 g => w9 = some (.int r) ∧ g = hh I lg, fun _ _ => False) 95 [some (.ref 143), some (.int (nI (w a))), some (.int (nI t)), some (.int (nI a)), some (.int (nI (fl6 b1 false false false false false))), none, none] [.int x] (hh I lg) 0 0 := by
    intro x hx
    subst hx
    have h8 := loopA (pn + 1) 0 none (by omega) (by omega)
    rw [show b3 0 = false by rw [hb3]; rfl, show b4 0 = false by rw [hb4]; rfl] at h8
    refine ms_istore dX11_faultsOf_95 (Nat.le_of_ble_eq_true rfl) ?_
    refine ms_iconst (v := nI 0) dX11_faultsOf_97 (by decide) ?_
    refine ms_istore dX11_faultsOf_98 (Nat.le_of_ble_eq_true rfl) ?_
    exact h8
  have J1 : ∀ x : Int32, x = nI (fl6 b1 false false false false false) → m_W S (M_X11_faultsOf, d, fun w9 g => w9 = some (.int r) ∧ g = hh I lg, fun _ _ => False) 37 [some (.ref 143), some (.int (nI (w a))), some (.int (nI t)), some (.int (nI a)), none, none, none] [.int x] (hh I lg) 0 0 := by
    intro x hx
    subst hx
    refine ms_istore dX11_faultsOf_37 (Nat.le_of_ble_eq_true rfl) ?_
    refine ms_iload dX11_faultsOf_39 rfl ?_
    refine ms_aload_n dX11_faultsOf_41 rfl ?_
    refine q_getr dX11_faultsOf_42 fX11_26 kd_11_9 (by first | decide | exact lt_sc (by omega) | exact lt_dy (by omega) | exact lt_rw (by omega) | exact lt_wa (by omega) | exact lt_le (by omega)) (by first | rfl | rw [sh_sc (by omega)] | rw [sh_dy (by omega)]) (by first | rfl | exact rf_wa (by omega) | exact rf_le (by omega) | exact rf_rw (by omega)) ?_
    refine ms_iload_n dX11_faultsOf_45 rfl ?_
    refine q_zald dX11_faultsOf_46 (by first | decide | exact lt_sc (by omega) | exact lt_dy (by omega) | exact lt_rw (by omega) | exact lt_wa (by omega) | exact lt_le (by omega)) (by first | rfl | exact sh_rw (by omega) | exact sh_wa (by omega) | exact sh_le (by omega)) (by omega) (by decide) rfl ?_
    refine ms_if_ne (tgt := 93) dX11_faultsOf_47 (by decide) (fun c47 => ?_) (fun c47 => ?_)
    · have e : b2 = false := by rw [hb2]; unfold fa2R; rw [decide_eq_false (fun z => c47 z.2)]; rfl
      refine ms_iconst (v := nI 0) dX11_faultsOf_93 (by decide) ?_
      refine ms_ior dX11_faultsOf_94 ?_
      refine J2 _ ?_
      rw [e]
      exact fl6_2 b1 false
    · refine ms_aload_n dX11_faultsOf_50 rfl ?_
      refine q_getr dX11_faultsOf_51 fX11_22 kd_11_8 (by first | decide | exact lt_sc (by omega) | exact lt_dy (by omega) | exact lt_rw (by omega) | exact lt_wa (by omega) | exact lt_le (by omega)) (by first | rfl | rw [sh_sc (by omega)] | rw [sh_dy (by omega)]) (by first | rfl | exact rf_wa (by omega) | exact rf_le (by omega) | exact rf_rw (by omega)) ?_
      refine ms_iload_n dX11_faultsOf_54 rfl ?_
      refine q_zald dX11_faultsOf_55 (by first | decide | exact lt_sc (by omega) | exact lt_dy (by omega) | exact lt_rw (by omega) | exact lt_wa (by omega) | exact lt_le (by omega)) (by first | rfl | exact sh_rw (by omega) | exact sh_wa (by omega) | exact sh_le (by omega)) (by omega) (by decide) rfl ?_
      refine ms_if_eq (tgt := 93) dX11_faultsOf_56 (by decide) (fun c56 => ?_) (fun c56 => ?_)
      · have e : b2 = false := by rw [hb2]; unfold fa2R; rw [decide_eq_false (fun z => z.1 c56)]; rfl
        refine ms_iconst (v := nI 0) dX11_faultsOf_93 (by decide) ?_
        refine ms_ior dX11_faultsOf_94 ?_
        refine J2 _ ?_
        rw [e]
        exact fl6_2 b1 false
      · refine ms_aload_n dX11_faultsOf_59 rfl ?_
        refine q_getr dX11_faultsOf_60 fX11_101 kd_11_38 (by first | decide | exact lt_sc (by omega) | exact lt_dy (by omega) | exact lt_rw (by omega) | exact lt_wa (by omega) | exact lt_le (by omega)) (by first | rfl | rw [sh_sc (by omega)] | rw [sh_dy (by omega)]) (by first | rfl | exact rf_wa (by omega) | exact rf_le (by omega) | exact rf_rw (by omega)) ?_
        refine ms_iload_n dX11_faultsOf_63 rfl ?_
        refine q_iald dX11_faultsOf_64 (by first | decide | exact lt_sc (by omega) | exact lt_dy (by omega) | exact lt_rw (by omega) | exact lt_wa (by omega) | exact lt_le (by omega)) (by first | rfl | exact sh_rw (by omega) | exact sh_wa (by omega) | exact sh_le (by omega)) (by omega) (by decide) rfl ?_
        refine ms_aload_n dX11_faultsOf_65 rfl ?_
        refine q_getr dX11_faultsOf_66 fX11_86 kd_11_33 (by first | decide | exact lt_sc (by omega) | exact lt_dy (by omega) | exact lt_rw (by omega) | exact lt_wa (by omega) | exact lt_le (by omega)) (by first | rfl | rw [sh_sc (by omega)] | rw [sh_dy (by omega)]) (by first | rfl | exact rf_wa (by omega) | exact rf_le (by omega) | exact rf_rw (by omega)) ?_
        refine ms_iload_n dX11_faultsOf_69 rfl ?_
        refine q_iald dX11_faultsOf_70 (by first | decide | exact lt_sc (by omega) | exact lt_dy (by omega) | exact lt_rw (by omega) | exact lt_wa (by omega) | exact lt_le (by omega)) (by first | rfl | exact sh_rw (by omega) | exact sh_wa (by omega) | exact sh_le (by omega)) (by omega) (by decide) rfl ?_
        refine ms_icmp_lt (tgt := 89) dX11_faultsOf_71 (by decide) (fun c71 => ?_) (fun c71 => ?_)
        · have e : b2 = true := by rw [hb2]; unfold fa2R; rw [decide_eq_true ⟨c56, c47⟩, decide_eq_true (Or.inl c71)]; rfl
          refine ms_iconst (v := nI 2) dX11_faultsOf_89 (by decide) ?_
          refine ms_goto (tgt := 94) dX11_faultsOf_90 (by decide) ?_
          refine ms_ior dX11_faultsOf_94 ?_
          refine J2 _ ?_
          rw [e]
          exact fl6_2 b1 true
        · refine ms_aload_n dX11_faultsOf_74 rfl ?_
          refine q_getr dX11_faultsOf_75 fX11_104 kd_11_39 (by first | decide | exact lt_sc (by omega) | exact lt_dy (by omega) | exact lt_rw (by omega) | exact lt_wa (by omega) | exact lt_le (by omega)) (by first | rfl | rw [sh_sc (by omega)] | rw [sh_dy (by omega)]) (by first | rfl | exact rf_wa (by omega) | exact rf_le (by omega) | exact rf_rw (by omega)) ?_
          refine ms_iload_n dX11_faultsOf_78 rfl ?_
          refine q_iald dX11_faultsOf_79 (by first | decide | exact lt_sc (by omega) | exact lt_dy (by omega) | exact lt_rw (by omega) | exact lt_wa (by omega) | exact lt_le (by omega)) (by first | rfl | exact sh_rw (by omega) | exact sh_wa (by omega) | exact sh_le (by omega)) (by omega) (by decide) rfl ?_
          refine ms_aload_n dX11_faultsOf_80 rfl ?_
          refine q_getr dX11_faultsOf_81 fX11_89 kd_11_34 (by first | decide | exact lt_sc (by omega) | exact lt_dy (by omega) | exact lt_rw (by omega) | exact lt_wa (by omega) | exact lt_le (by omega)) (by first | rfl | rw [sh_sc (by omega)] | rw [sh_dy (by omega)]) (by first | rfl | exact rf_wa (by omega) | exact rf_le (by omega) | exact rf_rw (by omega)) ?_
          refine ms_iload_n dX11_faultsOf_84 rfl ?_
          refine q_iald dX11_faultsOf_85 (by first | decide | exact lt_sc (by omega) | exact lt_dy (by omega) | exact lt_rw (by omega) | exact lt_wa (by omega) | exact lt_le (by omega)) (by first | rfl | exact sh_rw (by omega) | exact sh_wa (by omega) | exact sh_le (by omega)) (by omega) (by decide) rfl ?_
          refine ms_icmp_le (tgt := 93) dX11_faultsOf_86 (by decide) (fun c86 => ?_) (fun c86 => ?_)
          · have e : b2 = false := by rw [hb2]; unfold fa2R; rw [show decide (I 174 a < I 169 t ∨ I 170 t < I 175 a) = false from decide_eq_false (fun z => z.elim c71 (Int32.not_lt.mpr c86)), Bool.and_false]
            refine ms_iconst (v := nI 0) dX11_faultsOf_93 (by decide) ?_
            refine ms_ior dX11_faultsOf_94 ?_
            refine J2 _ ?_
            rw [e]
            exact fl6_2 b1 false
          · have e : b2 = true := by rw [hb2]; unfold fa2R; rw [decide_eq_true ⟨c56, c47⟩, decide_eq_true (Or.inr (Int32.not_le.mp c86))]; rfl
            refine ms_iconst (v := nI 2) dX11_faultsOf_89 (by decide) ?_
            refine ms_goto (tgt := 94) dX11_faultsOf_90 (by decide) ?_
            refine ms_ior dX11_faultsOf_94 ?_
            refine J2 _ ?_
            rw [e]
            exact fl6_2 b1 true
  refine ms_aload_n dX11_faultsOf_0 rfl ?_
  refine q_getr dX11_faultsOf_1 fX11_56 kd_11_19 (by first | decide | exact lt_sc (by omega) | exact lt_dy (by omega) | exact lt_rw (by omega) | exact lt_wa (by omega) | exact lt_le (by omega)) (by first | rfl | rw [sh_sc (by omega)] | rw [sh_dy (by omega)]) (by first | rfl | exact rf_wa (by omega) | exact rf_le (by omega) | exact rf_rw (by omega)) ?_
  refine ms_iload_n dX11_faultsOf_4 rfl ?_
  refine q_iald dX11_faultsOf_5 (by first | decide | exact lt_sc (by omega) | exact lt_dy (by omega) | exact lt_rw (by omega) | exact lt_wa (by omega) | exact lt_le (by omega)) (by first | rfl | exact sh_rw (by omega) | exact sh_wa (by omega) | exact sh_le (by omega)) (by omega) (by decide) hsd ?_
  refine ms_istore_n dX11_faultsOf_6 (Nat.le_of_ble_eq_true rfl) ?_
  refine ms_aload_n dX11_faultsOf_7 rfl ?_
  refine ms_iload_n dX11_faultsOf_8 rfl ?_
  refine ms_iload_n dX11_faultsOf_9 rfl ?_
  refine qRV2 dX11_faultsOf_10 kX11_181 (by show _ < 178; first | decide | exact lt_sc (by omega) | exact lt_dy (by omega)) (by show (sh0 _).1 = _; first | rfl | rw [sh_sc (by omega)] | rw [sh_dy (by omega)]) (d := d - 1) (by show d - 1 + 1 ≤ d; omega) rfl rfl (Nat.le_of_ble_eq_true rfl) (Nat.le_of_ble_eq_true rfl) (hpo) rfl ?_
  refine ms_istore_n dX11_faultsOf_13 (Nat.le_of_ble_eq_true rfl) ?_
  refine ms_aload_n dX11_faultsOf_14 rfl ?_
  refine q_getr dX11_faultsOf_15 fX11_77 kd_11_30 (by first | decide | exact lt_sc (by omega) | exact lt_dy (by omega) | exact lt_rw (by omega) | exact lt_wa (by omega) | exact lt_le (by omega)) (by first | rfl | rw [sh_sc (by omega)] | rw [sh_dy (by omega)]) (by first | rfl | exact rf_wa (by omega) | exact rf_le (by omega) | exact rf_rw (by omega)) ?_
  refine ms_aload_n dX11_faultsOf_18 rfl ?_
  refine q_getr dX11_faultsOf_19 fX11_19 kd_11_7 (by first | decide | exact lt_sc (by omega) | exact lt_dy (by omega) | exact lt_rw (by omega) | exact lt_wa (by omega) | exact lt_le (by omega)) (by first | rfl | rw [sh_sc (by omega)] | rw [sh_dy (by omega)]) (by first | rfl | exact rf_wa (by omega) | exact rf_le (by omega) | exact rf_rw (by omega)) ?_
  refine ms_iload_n dX11_faultsOf_22 rfl ?_
  refine q_iald dX11_faultsOf_23 (by first | decide | exact lt_sc (by omega) | exact lt_dy (by omega) | exact lt_rw (by omega) | exact lt_wa (by omega) | exact lt_le (by omega)) (by first | rfl | exact sh_rw (by omega) | exact sh_wa (by omega) | exact sh_le (by omega)) (by omega) (by decide) hp ?_
  refine q_iald dX11_faultsOf_24 (by first | decide | exact lt_sc (by omega) | exact lt_dy (by omega) | exact lt_rw (by omega) | exact lt_wa (by omega) | exact lt_le (by omega)) (by first | rfl | exact sh_rw (by omega) | exact sh_wa (by omega) | exact sh_le (by omega)) (by omega) (by decide) rfl ?_
  refine ms_iload_n dX11_faultsOf_25 rfl ?_
  refine qRS2 dX11_faultsOf_26 kX11_158 (d := d - 1) (by show d - 1 + 1 ≤ d; omega) rfl rfl (Nat.le_of_ble_eq_true rfl) (Nat.le_of_ble_eq_true rfl) (kr_has (by omega)) rfl ?_
  refine ms_if_eq (tgt := 36) dX11_faultsOf_29 (by decide) (fun c29 => ?_) (fun c29 => ?_)
  · have e : b1 = true := by rw [hb1, bi_0.mp c29]; rfl
    refine ms_iconst (v := nI 1) dX11_faultsOf_36 (by decide) ?_
    refine J1 _ ?_
    rw [e]
    rfl
  · have e : b1 = false := by rw [hb1, bi_n0.mp c29]; rfl
    refine ms_iconst (v := nI 0) dX11_faultsOf_32 (by decide) ?_
    refine ms_goto (tgt := 37) dX11_faultsOf_33 (by decide) ?_
    refine J1 _ ?_
    rw [e]
    rfl

