-- NAME refbound
/-! the reference: what is bound, letters -/
/-- one gets from s to g, by one step at least -/
def RB (bd : Nat → Int32) (m s g : Nat) : Prop := ∀ C : Nat → Prop, (∀ y, y < 32 → bt (bd s) y = true → C y) → (∀ x y, x < m → y < 32 → C x → bt (bd x) y = true → C y) → C g
theorem pc_lt {x y : Int32} (h : ∀ i, i < 32 → bt x i = true → bt y i = true) (hne : x ≠ y) : pc x 32 < pc y 32 := by
  have h1 : pc x 32 ≤ pc y 32 := fb_ct_sub h
  rcases Nat.lt_or_ge (pc x 32) (pc y 32) with z | z
  · exact z
  · refine absurd (b_ext (fun i hi => ?_)) hne
    have e : pc y 32 = fb_ct (fun i => bt x i || (bt y i && !bt x i)) 32 := fb_ct_cong (fun i hi => by
      cases hx : bt x i
      · cases bt y i <;> rfl
      · rw [h i hi hx]; rfl)
    have e2 : fb_ct (fun i => bt x i || (bt y i && !bt x i)) 32 = fb_ct (fun i => bt x i) 32 + fb_ct (fun i => bt y i && !bt x i) 32 := fb_ct_or (fun i hi z => by
      rw [z.1] at z
      have := z.2
      simp at this)
    have e3 : fb_ct (fun i => bt y i && !bt x i) 32 = 0 := by
      unfold pc at e z h1
      omega
    have e4 := fb_ct_zero.mp e3 i hi
    cases hx : bt x i
    · cases hy : bt y i
      · rfl
      · rw [hx, hy] at e4; cases e4
    · rw [h i hi hx]
theorem kr_isBound {S : m_S} {I : m_I} {lg : Int64} {d m s g : Nat} {c : Bool} (hd : 2 ≤ d) (hm : I 143 3 = nI m) (hm2 : m ≤ 20) (hs : s < 20) (hg : g < 20) (hc : c = true ↔ RB (fun k => I 154 k) m s g) : m_R S M_X11_isBound d [.ref 143, .int (nI s), .int (nI g)] (hh I lg) (some (.int (bi c))) (hh I lg) := by
  have outer : ∀ (q : Nat) (x had : Int32) (d5 : Option Value), 33 ≤ pc had 32 + q → (∀ y, y < 32 → bt x y = true → RB (fun k => I 154 k) m s y) → (∀ y, y < 32 → bt had y = true → bt x y = true) → (∀ j y, j < m → y < 32 → bt had j = true → bt (I 154 j) y = true → bt x y = true) → (∀ y, y < 32 → bt (I 154 s) y = true → bt x y = true) → m_W S (M_X11_isBound, d, fun w9 g9 => w9 = some (.int (bi c)) ∧ g9 = hh I lg, fun _ _ => False) 10 [some (.ref 143), some (.int (nI s)), some (.int (nI g)), some (.int x), some (.int had), d5] [] (hh I lg) 0 0 := by
    intro q
    induction q with
    | zero =>
      intro x had d5 hq
      have := fb_ct_le (fun i => bt had i) 32
      have e : pc had 32 = fb_ct (fun i => bt had i) 32 := rfl
      omega
    | succ q ih =>
      intro x had d5 hq hA hB hC hD
      refine ms_iload_n dX11_isBound_10 rfl ?_
      refine ms_iload dX11_isBound_11 rfl ?_
      refine ms_icmp_eq (tgt := 64) dX11_isBound_13 (by decide) (fun c13 => ?_) (fun c13 => ?_)
      · have hcx : c = bt x g := by
          rcases Bool.eq_false_or_eq_true (bt x g) with z | z
          · rw [z]
            exact hc.mpr (hA g (by omega) z)
          · rw [z]
            rcases Bool.eq_false_or_eq_true c with y | y
            · have h9 := hc.mp y (fun y => bt x y = true) (fun y hy h => hD y hy h) (fun j y hj hy h1 h2 => hC j y hj hy (by rw [← c13]; exact h1) h2)
              rw [z] at h9
              cases h9
            · exact y
        refine ms_iload_n dX11_isBound_64 rfl ?_
        refine ms_iload_n dX11_isBound_65 rfl ?_
        refine qRS2 dX11_isBound_66 kX11_158 (d := d - 1) (by show d - 1 + 1 ≤ d; omega) rfl rfl (Nat.le_of_ble_eq_true rfl) (Nat.le_of_ble_eq_true rfl) (kr_has (by omega)) rfl ?_
        refine ms_zret dX11_isBound_69 rfl rfl (by first | exact Or.inl (by decide) | exact Or.inr (by decide) | assumption | exact bi_01 _) ⟨?_, ?_⟩
        · rw [hcx]
        · rfl
      · have hlt := pc_lt hB (fun e => c13 e.symm)
        have inner : ∀ (q2 k : Nat) (y9 : Int32), k ≤ m → m - k < q2 → (∀ y, y < 32 → bt y9 y = true → RB (fun k => I 154 k) m s y) → (∀ y, y < 32 → bt x y = true → bt y9 y = true) → (∀ j y, j < k → y < 32 → bt x j = true → bt (I 154 j) y = true → bt y9 y = true) → m_W S (M_X11_isBound, d, fun w9 g9 => w9 = some (.int (bi c)) ∧ g9 = hh I lg, fun _ _ => False) 22 [some (.ref 143), some (.int (nI s)), some (.int (nI g)), some (.int y9), some (.int x), some (.int (nI k))] [] (hh I lg) 0 0 := by
          intro q2
          induction q2 with
          | zero => intro k _ _ h; omega
          | succ q2 ih2 =>
            intro k y9 hk hq2 h1 h2 h3
            refine ms_iload dX11_isBound_22 rfl ?_
            refine ms_aload_n dX11_isBound_24 rfl ?_
            refine q_geti dX11_isBound_25 fX11_114 (by rw [kd_11_3]; decide) (by first | decide | exact lt_sc (by omega) | exact lt_dy (by omega) | exact lt_rw (by omega) | exact lt_wa (by omega) | exact lt_le (by omega)) (by first | rfl | rw [sh_sc (by omega)] | rw [sh_dy (by omega)]) hm ?_
            refine n_icmp_ge (tgt := 61) dX11_isBound_28 (by decide) (by omega) (by omega) (fun c28 => ?_) (fun c28 => ?_)
            · obtain rfl : k = m := by omega
              refine ms_goto (tgt := 10) dX11_isBound_61 (by decide) ?_
              exact ih y9 x _ (by omega) h1 h2 h3 (fun y hy z => h2 y hy (hD y hy z))
            · refine ms_iload_n dX11_isBound_31 rfl ?_
              refine ms_iload dX11_isBound_32 rfl ?_
              refine ms_iload dX11_isBound_34 rfl ?_
              refine qRS2 dX11_isBound_36 kX11_158 (d := d - 1) (by show d - 1 + 1 ≤ d; omega) rfl rfl (Nat.le_of_ble_eq_true rfl) (Nat.le_of_ble_eq_true rfl) (kr_has (by omega)) rfl ?_
              refine ms_if_eq (tgt := 52) dX11_isBound_39 (by decide) (fun c39 => ?_) (fun c39 => ?_)
              · have z := bi_0.mp c39
                refine ms_iconst (v := nI 0) dX11_isBound_52 (by decide) ?_
                refine ms_ior dX11_isBound_53 ?_
                refine ms_istore_n dX11_isBound_54 (Nat.le_of_ble_eq_true rfl) ?_
                refine n_iinc dX11_isBound_55 rfl ?_
                refine ms_goto (tgt := 22) dX11_isBound_58 (by decide) ?_
                refine ih2 (k + 1) _ (by omega) (by omega) (fun y hy h => ?_) (fun y hy h => ?_) (fun j y hj hy h4 h5 => ?_)
                · rw [b_or, show bt (nI 0) y = false from b_0 y, Bool.or_false] at h
                  exact h1 y hy h
                · rw [b_or, h2 y hy h]; rfl
                · rcases Nat.lt_or_ge j k with z2 | z2
                  · rw [b_or, h3 j y z2 hy h4 h5]; rfl
                  · obtain rfl : j = k := by omega
                    rw [z] at h4
                    cases h4
              · have z := bi_n0.mp c39
                refine ms_aload_n dX11_isBound_42 rfl ?_
                refine q_getr dX11_isBound_43 fX11_41 kd_11_14 (by first | decide | exact lt_sc (by omega) | exact lt_dy (by omega) | exact lt_rw (by omega) | exact lt_wa (by omega) | exact lt_le (by omega)) (by first | rfl | rw [sh_sc (by omega)] | rw [sh_dy (by omega)]) (by first | rfl | exact rf_wa (by omega) | exact rf_le (by omega) | exact rf_rw (by omega)) ?_
                refine ms_iload dX11_isBound_46 rfl ?_
                refine q_iald dX11_isBound_48 (by first | decide | exact lt_sc (by omega) | exact lt_dy (by omega) | exact lt_rw (by omega) | exact lt_wa (by omega) | exact lt_le (by omega)) (by first | rfl | exact sh_rw (by omega) | exact sh_wa (by omega) | exact sh_le (by omega)) (by omega) (by decide) rfl ?_
                refine ms_goto (tgt := 53) dX11_isBound_49 (by decide) ?_
                refine ms_ior dX11_isBound_53 ?_
                refine ms_istore_n dX11_isBound_54 (Nat.le_of_ble_eq_true rfl) ?_
                refine n_iinc dX11_isBound_55 rfl ?_
                refine ms_goto (tgt := 22) dX11_isBound_58 (by decide) ?_
                refine ih2 (k + 1) _ (by omega) (by omega) (fun y hy h => ?_) (fun y hy h => ?_) (fun j y hj hy h4 h5 => ?_)
                · rw [b_or] at h
                  rcases Bool.eq_false_or_eq_true (bt y9 y) with z2 | z2
                  · exact h1 y hy z2
                  · rw [z2, Bool.false_or] at h
                    exact fun C g1 g2 => g2 k y (by omega) hy (hA k (by omega) z C g1 g2) h
                · rw [b_or, h2 y hy h]; rfl
                · rcases Nat.lt_or_ge j k with z2 | z2
                  · rw [b_or, h3 j y z2 hy h4 h5]; rfl
                  · obtain rfl : j = k := by omega
                    rw [b_or, h5, Bool.or_true]
        refine ms_iload_n dX11_isBound_16 rfl ?_
        refine ms_istore dX11_isBound_17 (Nat.le_of_ble_eq_true rfl) ?_
        refine ms_iconst (v := nI 0) dX11_isBound_19 (by decide) ?_
        refine ms_istore dX11_isBound_20 (Nat.le_of_ble_eq_true rfl) ?_
        exact inner (m + 1) 0 x (by omega) (by omega) hA (fun y _ h => h) (fun j _ hj => absurd hj (Nat.not_lt_zero j))
  refine ms_aload_n dX11_isBound_0 rfl ?_
  refine q_getr dX11_isBound_1 fX11_41 kd_11_14 (by first | decide | exact lt_sc (by omega) | exact lt_dy (by omega) | exact lt_rw (by omega) | exact lt_wa (by omega) | exact lt_le (by omega)) (by first | rfl | rw [sh_sc (by omega)] | rw [sh_dy (by omega)]) (by first | rfl | exact rf_wa (by omega) | exact rf_le (by omega) | exact rf_rw (by omega)) ?_
  refine ms_iload_n dX11_isBound_4 rfl ?_
  refine q_iald dX11_isBound_5 (by first | decide | exact lt_sc (by omega) | exact lt_dy (by omega) | exact lt_rw (by omega) | exact lt_wa (by omega) | exact lt_le (by omega)) (by first | rfl | exact sh_rw (by omega) | exact sh_wa (by omega) | exact sh_le (by omega)) (by omega) (by decide) rfl ?_
  refine ms_istore_n dX11_isBound_6 (Nat.le_of_ble_eq_true rfl) ?_
  refine ms_iconst (v := nI 0) dX11_isBound_7 (by decide) ?_
  refine ms_istore dX11_isBound_8 (Nat.le_of_ble_eq_true rfl) ?_
  refine outer 33 _ _ _ (by omega) (fun y hy h C g1 _ => g1 y hy h) (fun y _ h => ?_) (fun j y _ _ h => ?_) (fun y _ h => h)
  · rw [show bt (nI 0) y = false from b_0 y] at h
    cases h
  · rw [show bt (nI 0) j = false from b_0 j] at h
    cases h
def nuR (I : m_I) (o : Nat → Nat) : Nat → Int32
  | 0 => nI 0
  | k + 1 => if I 146 (o k) = 0 then I 145 (o k) else nuR I o k
def lsP (I : m_I) (s : Nat) (x : Int32) (p k : Nat) : Bool := decide (k ≠ s ∧ I 145 k = x ∧ I 146 k = nI p)
theorem kr_letter {S : m_S} {I : m_I} {lg : Int64} {d m s a q0 : Nat} {o : Nat → Nat} (hd : 2 ≤ d) (hm : I 143 3 = nI m) (hm2 : m ≤ 20) (ho : ∀ k, k < m → I 144 k = nI (o k) ∧ o k < 20) (ha : a < m) (hos : o a = s) (hf : ∀ j, j < a → o j ≠ s) (hs : s < m) (h0 : I 146 s = 0) (hq1 : 1 ≤ q0) (hq2 : q0 ≤ 26) (hfree : anyB (lsP I s (nuR I o a) q0) m = false) (htak : ∀ p, 1 ≤ p → p < q0 → anyB (lsP I s (nuR I o a) p) m = true) : m_R S M_X11_letter d [.ref 143, .int (nI s)] (hh I lg) none (hh (m_up2 (m_up2 I 145 s (nuR I o a)) 146 s (nI q0)) lg) := by
  have hpl := kr_placeIn (S := S) (I := I) (lg := lg) (d := d - 1) (s := s) (a := a) (by omega) (by rw [(ho a ha).1, hos]) (fun j hj e => by
    rw [(ho j (by omega)).1] at e
    exact hf j hj ((nI_eq (by have := (ho j (by omega)).2; omega) (by omega)).mp e))
  obtain ⟨its, hits⟩ : ∃ z, z = nuR I o a := ⟨_, rfl⟩
  rw [← hits] at hfree htak
  obtain ⟨K, hK⟩ : ∃ K : Nat → m_I, K = fun p => m_up2 (m_up2 I 145 s its) 146 s (nI p) := ⟨_, rfl⟩
  have hK1 : ∀ p a b, a ≠ 145 ∧ a ≠ 146 → K p a b = I a b := fun p a b h => by rw [hK]; exact (m_up2_ne (fun z => h.2 z.1)).trans (m_up2_ne (fun z => h.1 z.1))
  have hK2 : ∀ p k, k ≠ s → K p 145 k = I 145 k := fun p k h => by rw [hK]; exact (m_up2_ne (fun z => h z.2)).trans (m_up2_ne (fun z => h z.2))
  have hK3 : ∀ p k, k ≠ s → K p 146 k = I 146 k := fun p k h => by rw [hK]; exact (m_up2_ne (fun z => h z.2)).trans (m_up2_ne (fun z => h z.2))
  have hK4 : ∀ p, K p 146 s = nI p := fun p => by rw [hK]; exact m_up2_eq
  have hKs : ∀ p, m_up2 (K p) 146 s (nI (p + 1)) = K (p + 1) := fun p => by
    rw [hK]
    funext a b
    dsimp only
    unfold m_up2
    split <;> rfl
  have hKq : hh (m_up2 (m_up2 I 145 s its) 146 s (nI q0)) lg = hh (K q0) lg := by rw [hK]
  rw [← hits, hKq]
  have loop2 : ∀ (q p : Nat) (d4 : Option Value), p < q0 → q0 - p < q → m_W S (M_X11_letter, d, fun w9 g9 => w9 = none ∧ g9 = hh (K q0) lg, fun _ _ => False) 58 [some (.ref 143), some (.int (nI s)), some (.int its), some (.int (bi false)), d4] [] (hh (K p) lg) 0 0 := by
    intro q
    induction q with
    | zero => intro p _ _ h; omega
    | succ q ih =>
      intro p d4 hp hq
      have loop3 : ∀ (q2 k : Nat), k ≤ m → m - k < q2 → m_W S (M_X11_letter, d, fun w9 g9 => w9 = none ∧ g9 = hh (K q0) lg, fun _ _ => False) 77 [some (.ref 143), some (.int (nI s)), some (.int its), some (.int (bi (!anyB (lsP I s its (p + 1)) k))), some (.int (nI k))] [] (hh (K (p + 1)) lg) 0 0 := by
        intro q2
        induction q2 with
        | zero => intro k _ h; omega
        | succ q2 ih2 =>
          intro k hk hq2
          have hm' : K (p + 1) 143 3 = nI m := (hK1 _ _ _ (by decide)).trans hm
          refine ms_iload dX11_letter_77 rfl ?_
          refine ms_aload_n dX11_letter_79 rfl ?_
          refine q_geti dX11_letter_80 fX11_114 (by rw [kd_11_3]; decide) (by first | decide | exact lt_sc (by omega) | exact lt_dy (by omega) | exact lt_rw (by omega) | exact lt_wa (by omega) | exact lt_le (by omega)) (by first | rfl | rw [sh_sc (by omega)] | rw [sh_dy (by omega)]) (by first | assumption | ((repeat ((with_reducible apply m_up2_tr); · first | omega | (intro z; (try unfold scI at z); (try unfold dyI at z); (try unfold rwI at z); (try unfold waI at z); (try unfold leI at z); omega))); first | assumption | exact m_up2_eq | rfl)) ?_
          refine n_icmp_ge (tgt := 135) dX11_letter_83 (by decide) (by omega) (by omega) (fun c83 => ?_) (fun c83 => ?_)
          · obtain rfl : k = m := by omega
            by_cases e : p + 1 = q0
            · rw [e, hfree]
              refine ms_goto (tgt := 58) dX11_letter_135 (by decide) ?_
              refine ms_iload_n dX11_letter_58 rfl ?_
              refine ms_if_ne (tgt := 138) dX11_letter_59 (by decide) (fun c59 => ?_) (fun c59 => ?_)
              · refine ms_vret dX11_letter_138 rfl rfl ⟨rfl, ?_⟩
                · rfl
              · exact absurd c59 (by decide)
            · rw [htak (p + 1) (by omega) (by omega)]
              refine ms_goto (tgt := 58) dX11_letter_135 (by decide) ?_
              exact ih (p + 1) _ (by omega) (by omega)
          · have eA : anyB (lsP I s its (p + 1)) (k + 1) = (anyB (lsP I s its (p + 1)) k || lsP I s its (p + 1) k) := rfl
            have h9 := ih2 (k + 1) (by omega) (by omega)
            rw [eA] at h9
            have hye : anyB (lsP I s its (p + 1)) k = false → lsP I s its (p + 1) k = false → m_W S (M_X11_letter, d, fun w9 g9 => w9 = none ∧ g9 = hh (K q0) lg, fun _ _ => False) 123 [some (.ref 143), some (.int (nI s)), some (.int its), some (.int (bi (!anyB (lsP I s its (p + 1)) k))), some (.int (nI k))] [] (hh (K (p + 1)) lg) 0 0 := by
              intro z1 z2
              rw [z1, z2] at h9
              refine ms_iconst (v := nI 1) dX11_letter_123 (by decide) ?_
              refine ms_goto (tgt := 128) dX11_letter_124 (by decide) ?_
              refine ms_istore_n dX11_letter_128 (Nat.le_of_ble_eq_true rfl) ?_
              refine n_iinc dX11_letter_129 rfl ?_
              refine ms_goto (tgt := 77) dX11_letter_132 (by decide) ?_
              exact h9
            have hno : anyB (lsP I s its (p + 1)) k = true ∨ lsP I s its (p + 1) k = true → m_W S (M_X11_letter, d, fun w9 g9 => w9 = none ∧ g9 = hh (K q0) lg, fun _ _ => False) 127 [some (.ref 143), some (.int (nI s)), some (.int its), some (.int (bi (!anyB (lsP I s its (p + 1)) k))), some (.int (nI k))] [] (hh (K (p + 1)) lg) 0 0 := by
              intro z
              have e : (anyB (lsP I s its (p + 1)) k || lsP I s its (p + 1) k) = true := by
                rcases z with z | z
                · rw [z]; rfl
                · rw [z]; exact Bool.or_true _
              rw [e] at h9
              refine ms_iconst (v := nI 0) dX11_letter_127 (by decide) ?_
              refine ms_istore_n dX11_letter_128 (Nat.le_of_ble_eq_true rfl) ?_
              refine n_iinc dX11_letter_129 rfl ?_
              refine ms_goto (tgt := 77) dX11_letter_132 (by decide) ?_
              exact h9
            refine ms_iload_n dX11_letter_86 rfl ?_
            refine ms_if_eq (tgt := 127) dX11_letter_87 (by decide) (fun c87 => ?_) (fun c87 => ?_)
            · refine hno (Or.inl ?_)
              have z := bi_0.mp c87
              cases h : anyB (lsP I s its (p + 1)) k
              · rw [h] at z; cases z
              · rfl
            · have z1 : anyB (lsP I s its (p + 1)) k = false := by
                have z := bi_n0.mp c87
                cases h : anyB (lsP I s its (p + 1)) k
                · rfl
                · rw [h] at z; cases z
              have v3 := hK4 (p + 1)
              refine ms_iload dX11_letter_90 rfl ?_
              refine ms_iload_n dX11_letter_92 rfl ?_
              refine n_icmp_eq (tgt := 123) dX11_letter_93 (by decide) (by omega) (by omega) (fun c93 => ?_) (fun c93 => ?_)
              · exact hye z1 (decide_eq_false (fun z => z.1 c93))
              · have v1 := hK2 (p + 1) k c93
                have v2 := hK3 (p + 1) k c93
                refine ms_aload_n dX11_letter_96 rfl ?_
                refine q_getr dX11_letter_97 fX11_13 kd_11_5 (by first | decide | exact lt_sc (by omega) | exact lt_dy (by omega) | exact lt_rw (by omega) | exact lt_wa (by omega) | exact lt_le (by omega)) (by first | rfl | rw [sh_sc (by omega)] | rw [sh_dy (by omega)]) (by first | rfl | exact rf_wa (by omega) | exact rf_le (by omega) | exact rf_rw (by omega)) ?_
                refine ms_iload dX11_letter_100 rfl ?_
                refine q_iald dX11_letter_102 (by first | decide | exact lt_sc (by omega) | exact lt_dy (by omega) | exact lt_rw (by omega) | exact lt_wa (by omega) | exact lt_le (by omega)) (by first | rfl | exact sh_rw (by omega) | exact sh_wa (by omega) | exact sh_le (by omega)) (by omega) (by decide) v1 ?_
                refine ms_iload_n dX11_letter_103 rfl ?_
                refine ms_icmp_ne (tgt := 123) dX11_letter_104 (by decide) (fun c104 => ?_) (fun c104 => ?_)
                · exact hye z1 (decide_eq_false (fun z => c104 z.2.1))
                · refine ms_aload_n dX11_letter_107 rfl ?_
                  refine q_getr dX11_letter_108 fX11_16 kd_11_6 (by first | decide | exact lt_sc (by omega) | exact lt_dy (by omega) | exact lt_rw (by omega) | exact lt_wa (by omega) | exact lt_le (by omega)) (by first | rfl | rw [sh_sc (by omega)] | rw [sh_dy (by omega)]) (by first | rfl | exact rf_wa (by omega) | exact rf_le (by omega) | exact rf_rw (by omega)) ?_
                  refine ms_iload dX11_letter_111 rfl ?_
                  refine q_iald dX11_letter_113 (by first | decide | exact lt_sc (by omega) | exact lt_dy (by omega) | exact lt_rw (by omega) | exact lt_wa (by omega) | exact lt_le (by omega)) (by first | rfl | exact sh_rw (by omega) | exact sh_wa (by omega) | exact sh_le (by omega)) (by omega) (by decide) v2 ?_
                  refine ms_aload_n dX11_letter_114 rfl ?_
                  refine q_getr dX11_letter_115 fX11_16 kd_11_6 (by first | decide | exact lt_sc (by omega) | exact lt_dy (by omega) | exact lt_rw (by omega) | exact lt_wa (by omega) | exact lt_le (by omega)) (by first | rfl | rw [sh_sc (by omega)] | rw [sh_dy (by omega)]) (by first | rfl | exact rf_wa (by omega) | exact rf_le (by omega) | exact rf_rw (by omega)) ?_
                  refine ms_iload_n dX11_letter_118 rfl ?_
                  refine q_iald dX11_letter_119 (by first | decide | exact lt_sc (by omega) | exact lt_dy (by omega) | exact lt_rw (by omega) | exact lt_wa (by omega) | exact lt_le (by omega)) (by first | rfl | exact sh_rw (by omega) | exact sh_wa (by omega) | exact sh_le (by omega)) (by omega) (by decide) v3 ?_
                  refine ms_icmp_eq (tgt := 127) dX11_letter_120 (by decide) (fun c120 => ?_) (fun c120 => ?_)
                  · exact hno (Or.inr (decide_eq_true ⟨c93, c104, c120⟩))
                  · exact hye z1 (decide_eq_false (fun z => c120 z.2.2))
      have h4 := hK4 p
      refine ms_iload_n dX11_letter_58 rfl ?_
      refine ms_if_ne (tgt := 138) dX11_letter_59 (by decide) (fun c59 => ?_) (fun c59 => ?_)
      · exact absurd rfl c59
      · refine ms_aload_n dX11_letter_62 rfl ?_
        refine q_getr dX11_letter_63 fX11_16 kd_11_6 (by first | decide | exact lt_sc (by omega) | exact lt_dy (by omega) | exact lt_rw (by omega) | exact lt_wa (by omega) | exact lt_le (by omega)) (by first | rfl | rw [sh_sc (by omega)] | rw [sh_dy (by omega)]) (by first | rfl | exact rf_wa (by omega) | exact rf_le (by omega) | exact rf_rw (by omega)) ?_
        refine ms_iload_n dX11_letter_66 rfl ?_
        refine ms_dup2 dX11_letter_67 rfl rfl ?_
        refine q_iald dX11_letter_68 (by first | decide | exact lt_sc (by omega) | exact lt_dy (by omega) | exact lt_rw (by omega) | exact lt_wa (by omega) | exact lt_le (by omega)) (by first | rfl | exact sh_rw (by omega) | exact sh_wa (by omega) | exact sh_le (by omega)) (by omega) (by decide) (by first | assumption | ((repeat ((with_reducible apply m_up2_tr); · first | omega | (intro z; (try unfold scI at z); (try unfold dyI at z); (try unfold rwI at z); (try unfold waI at z); (try unfold leI at z); omega))); first | assumption | exact m_up2_eq | rfl)) ?_
        refine ms_iconst (v := nI 1) dX11_letter_69 (by decide) ?_
        refine n_iadd dX11_letter_70 ?_
        refine q_iast dX11_letter_71 (by first | decide | exact lt_sc (by omega) | exact lt_dy (by omega) | exact lt_rw (by omega) | exact lt_wa (by omega) | exact lt_le (by omega)) (by first | rfl | exact sh_rw (by omega) | exact sh_wa (by omega) | exact sh_le (by omega)) (by omega) (by decide) ?_
        refine ms_iconst (v := nI 1) dX11_letter_72 (by decide) ?_
        refine ms_istore_n dX11_letter_73 (Nat.le_of_ble_eq_true rfl) ?_
        refine ms_iconst (v := nI 0) dX11_letter_74 (by decide) ?_
        refine ms_istore dX11_letter_75 (Nat.le_of_ble_eq_true rfl) ?_
        rw [hKs]
        exact loop3 (m + 1) 0 (by omega) (by omega)
  have loop1 : ∀ (q k : Nat), k ≤ a → a - k < q → m_W S (M_X11_letter, d, fun w9 g9 => w9 = none ∧ g9 = hh (K q0) lg, fun _ _ => False) 4 [some (.ref 143), some (.int (nI s)), some (.int (nuR I o k)), some (.int (nI k)), none] [] (hh (I) lg) 0 0 := by
    intro q
    induction q with
    | zero => intro k  _ h; omega
    | succ q ih =>
      intro k  hk hq
      refine ms_iload_n dX11_letter_4 rfl ?_
      refine ms_aload_n dX11_letter_5 rfl ?_
      refine ms_iload_n dX11_letter_6 rfl ?_
      refine qRV1 dX11_letter_7 kX11_127 (by show _ < 178; first | decide | exact lt_sc (by omega) | exact lt_dy (by omega)) (by show (sh0 _).1 = _; first | rfl | rw [sh_sc (by omega)] | rw [sh_dy (by omega)]) (d := d - 1) (by show d - 1 + 1 ≤ d; omega) rfl (Nat.le_of_ble_eq_true rfl) (Nat.le_of_ble_eq_true rfl) (hpl) rfl ?_
      refine n_icmp_ge (tgt := 49) dX11_letter_10 (by decide) (by omega) (by omega) (fun c10 => ?_) (fun c10 => ?_)
      · obtain rfl : k = a := by omega
        have e : m_up2 I 145 s its = K 0 := by
          rw [hK]
          funext a b
          dsimp only
          unfold m_up2
          by_cases z : a = 146 ∧ b = s
          · rw [if_pos z, if_neg (by omega), z.1, z.2]
            exact h0
          · rw [if_neg z]
        rw [← hits]
        refine ms_aload_n dX11_letter_49 rfl ?_
        refine q_getr dX11_letter_50 fX11_13 kd_11_5 (by first | decide | exact lt_sc (by omega) | exact lt_dy (by omega) | exact lt_rw (by omega) | exact lt_wa (by omega) | exact lt_le (by omega)) (by first | rfl | rw [sh_sc (by omega)] | rw [sh_dy (by omega)]) (by first | rfl | exact rf_wa (by omega) | exact rf_le (by omega) | exact rf_rw (by omega)) ?_
        refine ms_iload_n dX11_letter_53 rfl ?_
        refine ms_iload_n dX11_letter_54 rfl ?_
        refine q_iast dX11_letter_55 (by first | decide | exact lt_sc (by omega) | exact lt_dy (by omega) | exact lt_rw (by omega) | exact lt_wa (by omega) | exact lt_le (by omega)) (by first | rfl | exact sh_rw (by omega) | exact sh_wa (by omega) | exact sh_le (by omega)) (by omega) (by decide) ?_
        refine ms_iconst (v := nI 0) dX11_letter_56 (by decide) ?_
        refine ms_istore_n dX11_letter_57 (Nat.le_of_ble_eq_true rfl) ?_
        rw [e]
        exact loop2 (q0 + 1) 0 none (by omega) (by omega)
      · obtain ⟨o1, o2⟩ := ho k (by omega)
        have h9 := ih (k + 1) (by omega) (by omega)
        refine ms_aload_n dX11_letter_13 rfl ?_
        refine q_getr dX11_letter_14 fX11_16 kd_11_6 (by first | decide | exact lt_sc (by omega) | exact lt_dy (by omega) | exact lt_rw (by omega) | exact lt_wa (by omega) | exact lt_le (by omega)) (by first | rfl | rw [sh_sc (by omega)] | rw [sh_dy (by omega)]) (by first | rfl | exact rf_wa (by omega) | exact rf_le (by omega) | exact rf_rw (by omega)) ?_
        refine ms_aload_n dX11_letter_17 rfl ?_
        refine q_getr dX11_letter_18 fX11_7 kd_11_4 (by first | decide | exact lt_sc (by omega) | exact lt_dy (by omega) | exact lt_rw (by omega) | exact lt_wa (by omega) | exact lt_le (by omega)) (by first | rfl | rw [sh_sc (by omega)] | rw [sh_dy (by omega)]) (by first | rfl | exact rf_wa (by omega) | exact rf_le (by omega) | exact rf_rw (by omega)) ?_
        refine ms_iload_n dX11_letter_21 rfl ?_
        refine q_iald dX11_letter_22 (by first | decide | exact lt_sc (by omega) | exact lt_dy (by omega) | exact lt_rw (by omega) | exact lt_wa (by omega) | exact lt_le (by omega)) (by first | rfl | exact sh_rw (by omega) | exact sh_wa (by omega) | exact sh_le (by omega)) (by omega) (by decide) o1 ?_
        refine q_iald dX11_letter_23 (by first | decide | exact lt_sc (by omega) | exact lt_dy (by omega) | exact lt_rw (by omega) | exact lt_wa (by omega) | exact lt_le (by omega)) (by first | rfl | exact sh_rw (by omega) | exact sh_wa (by omega) | exact sh_le (by omega)) (by omega) (by decide) rfl ?_
        refine ms_if_ne (tgt := 41) dX11_letter_24 (by decide) (fun c24 => ?_) (fun c24 => ?_)
        · have e : nuR I o (k + 1) = nuR I o k := if_neg c24
          rw [e] at h9
          refine ms_iload_n dX11_letter_41 rfl ?_
          refine ms_istore_n dX11_letter_42 (Nat.le_of_ble_eq_true rfl) ?_
          refine n_iinc dX11_letter_43 rfl ?_
          refine ms_goto (tgt := 4) dX11_letter_46 (by decide) ?_
          exact h9
        · have e : nuR I o (k + 1) = I 145 (o k) := if_pos c24
          rw [e] at h9
          refine ms_aload_n dX11_letter_27 rfl ?_
          refine q_getr dX11_letter_28 fX11_13 kd_11_5 (by first | decide | exact lt_sc (by omega) | exact lt_dy (by omega) | exact lt_rw (by omega) | exact lt_wa (by omega) | exact lt_le (by omega)) (by first | rfl | rw [sh_sc (by omega)] | rw [sh_dy (by omega)]) (by first | rfl | exact rf_wa (by omega) | exact rf_le (by omega) | exact rf_rw (by omega)) ?_
          refine ms_aload_n dX11_letter_31 rfl ?_
          refine q_getr dX11_letter_32 fX11_7 kd_11_4 (by first | decide | exact lt_sc (by omega) | exact lt_dy (by omega) | exact lt_rw (by omega) | exact lt_wa (by omega) | exact lt_le (by omega)) (by first | rfl | rw [sh_sc (by omega)] | rw [sh_dy (by omega)]) (by first | rfl | exact rf_wa (by omega) | exact rf_le (by omega) | exact rf_rw (by omega)) ?_
          refine ms_iload_n dX11_letter_35 rfl ?_
          refine q_iald dX11_letter_36 (by first | decide | exact lt_sc (by omega) | exact lt_dy (by omega) | exact lt_rw (by omega) | exact lt_wa (by omega) | exact lt_le (by omega)) (by first | rfl | exact sh_rw (by omega) | exact sh_wa (by omega) | exact sh_le (by omega)) (by omega) (by decide) o1 ?_
          refine q_iald dX11_letter_37 (by first | decide | exact lt_sc (by omega) | exact lt_dy (by omega) | exact lt_rw (by omega) | exact lt_wa (by omega) | exact lt_le (by omega)) (by first | rfl | exact sh_rw (by omega) | exact sh_wa (by omega) | exact sh_le (by omega)) (by omega) (by decide) rfl ?_
          refine ms_goto (tgt := 42) dX11_letter_38 (by decide) ?_
          refine ms_istore_n dX11_letter_42 (Nat.le_of_ble_eq_true rfl) ?_
          refine n_iinc dX11_letter_43 rfl ?_
          refine ms_goto (tgt := 4) dX11_letter_46 (by decide) ?_
          exact h9
  refine ms_iconst (v := nI 0) dX11_letter_0 (by decide) ?_
  refine ms_istore_n dX11_letter_1 (Nat.le_of_ble_eq_true rfl) ?_
  refine ms_iconst (v := nI 0) dX11_letter_2 (by decide) ?_
  refine ms_istore_n dX11_letter_3 (Nat.le_of_ble_eq_true rfl) ?_
  exact loop1 (a + 1) 0 (by omega) (by omega)

