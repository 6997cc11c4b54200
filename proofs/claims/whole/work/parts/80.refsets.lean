-- NAME refsets
/-! the reference: what can be tried, what clashes -/
def loR (I : m_I) (s : Nat) : Bool := looseB (I 155 s) (I 156 s) (I 159 s)
def seR (I : m_I) (i : Nat) : Bool := decide (¬ I 155 i = 0 ∨ ¬ I 156 i = 0 ∨ ¬ I 159 i = -1)
def frR (I : m_I) (s i : Nat) : Bool := bt (I 154 s) i && !seR I i
def ctR (I : m_I) (s m : Nat) : Bool := loR I s && !anyB (frR I s) m
theorem kr_canTry {S : m_S} {I : m_I} {lg : Int64} {d m s : Nat} (hd : 2 ≤ d) (hm : I 143 3 = nI m) (hm2 : m ≤ 20) (hs : s < 20) : m_R S M_X11_canTry d [.ref 143, .int (nI s)] (hh I lg) (some (.int (bi (ctR I s m)))) (hh I lg) := by
  have loop : ∀ (q k : Nat), k ≤ m → m - k < q → m_W S (M_X11_canTry, d, fun w9 g9 => w9 = some (.int (bi (ctR I s m))) ∧ g9 = hh (I) lg, fun _ _ => False) 36 [some (.ref 143), some (.int (nI s)), some (.int (bi (ctR I s k))), some (.int (nI k))] [] (hh (I) lg) 0 0 := by
    intro q
    induction q with
    | zero => intro k  _ h; omega
    | succ q ih =>
      intro k  hk hq
      refine ms_iload_n dX11_canTry_36 rfl ?_
      refine ms_aload_n dX11_canTry_37 rfl ?_
      refine q_geti dX11_canTry_38 fX11_114 (by rw [kd_11_3]; decide) (by first | decide | exact lt_sc (by omega) | exact lt_dy (by omega) | exact lt_rw (by omega) | exact lt_wa (by omega) | exact lt_le (by omega)) (by first | rfl | rw [sh_sc (by omega)] | rw [sh_dy (by omega)]) hm ?_
      refine n_icmp_ge (tgt := 101) dX11_canTry_41 (by decide) (by omega) (by omega) (fun c41 => ?_) (fun c41 => ?_)
      · obtain rfl : k = m := by omega
        refine ms_iload_n dX11_canTry_101 rfl ?_
        refine ms_zret dX11_canTry_102 rfl rfl (by first | exact Or.inl (by decide) | exact Or.inr (by decide) | assumption | exact bi_01 _) ⟨?_, ?_⟩
        · rfl
        · rfl
      · have e0 : ctR I s (k + 1) = (ctR I s k && !frR I s k) := by
          show (loR I s && !(anyB (frR I s) k || frR I s k)) = (loR I s && !anyB (frR I s) k && !frR I s k)
          rw [Bool.not_or, Bool.and_assoc]
        have h9 := ih (k + 1) (by omega) (by omega)
        rw [e0] at h9
        have hno : ctR I s k = false ∨ frR I s k = true → m_W S (M_X11_canTry, d, fun w9 g9 => w9 = some (.int (bi (ctR I s m))) ∧ g9 = hh I lg, fun _ _ => False) 93 [some (.ref 143), some (.int (nI s)), some (.int (bi (ctR I s k))), some (.int (nI k))] [] (hh I lg) 0 0 := by
          intro z
          have e : (ctR I s k && !frR I s k) = false := by
            rcases z with z | z
            · rw [z]; rfl
            · rw [z]; exact Bool.and_false _
          rw [e] at h9
          refine ms_iconst (v := nI 0) dX11_canTry_93 (by decide) ?_
          refine ms_istore_n dX11_canTry_94 (Nat.le_of_ble_eq_true rfl) ?_
          refine n_iinc dX11_canTry_95 rfl ?_
          refine ms_goto (tgt := 36) dX11_canTry_98 (by decide) ?_
          exact h9
        have hye : ctR I s k = true → frR I s k = false → m_W S (M_X11_canTry, d, fun w9 g9 => w9 = some (.int (bi (ctR I s m))) ∧ g9 = hh I lg, fun _ _ => False) 89 [some (.ref 143), some (.int (nI s)), some (.int (bi (ctR I s k))), some (.int (nI k))] [] (hh I lg) 0 0 := by
          intro z1 z2
          rw [z1, z2] at h9
          refine ms_iconst (v := nI 1) dX11_canTry_89 (by decide) ?_
          refine ms_goto (tgt := 94) dX11_canTry_90 (by decide) ?_
          refine ms_istore_n dX11_canTry_94 (Nat.le_of_ble_eq_true rfl) ?_
          refine n_iinc dX11_canTry_95 rfl ?_
          refine ms_goto (tgt := 36) dX11_canTry_98 (by decide) ?_
          exact h9
        refine ms_iload_n dX11_canTry_44 rfl ?_
        refine ms_if_eq (tgt := 93) dX11_canTry_45 (by decide) (fun c45 => ?_) (fun c45 => ?_)
        · exact hno (Or.inl (bi_0.mp c45))
        · have z1 := bi_n0.mp c45
          refine ms_aload_n dX11_canTry_48 rfl ?_
          refine q_getr dX11_canTry_49 fX11_41 kd_11_14 (by first | decide | exact lt_sc (by omega) | exact lt_dy (by omega) | exact lt_rw (by omega) | exact lt_wa (by omega) | exact lt_le (by omega)) (by first | rfl | rw [sh_sc (by omega)] | rw [sh_dy (by omega)]) (by first | rfl | exact rf_wa (by omega) | exact rf_le (by omega) | exact rf_rw (by omega)) ?_
          refine ms_iload_n dX11_canTry_52 rfl ?_
          refine q_iald dX11_canTry_53 (by first | decide | exact lt_sc (by omega) | exact lt_dy (by omega) | exact lt_rw (by omega) | exact lt_wa (by omega) | exact lt_le (by omega)) (by first | rfl | exact sh_rw (by omega) | exact sh_wa (by omega) | exact sh_le (by omega)) (by omega) (by decide) rfl ?_
          refine ms_iload_n dX11_canTry_54 rfl ?_
          refine qRS2 dX11_canTry_55 kX11_158 (d := d - 1) (by show d - 1 + 1 ≤ d; omega) rfl rfl (Nat.le_of_ble_eq_true rfl) (Nat.le_of_ble_eq_true rfl) (kr_has (by omega)) rfl ?_
          refine ms_if_eq (tgt := 89) dX11_canTry_58 (by decide) (fun c58 => ?_) (fun c58 => ?_)
          · exact hye z1 (by unfold frR; rw [bi_0.mp c58]; rfl)
          · refine ms_aload_n dX11_canTry_61 rfl ?_
            refine q_getr dX11_canTry_62 fX11_56 kd_11_19 (by first | decide | exact lt_sc (by omega) | exact lt_dy (by omega) | exact lt_rw (by omega) | exact lt_wa (by omega) | exact lt_le (by omega)) (by first | rfl | rw [sh_sc (by omega)] | rw [sh_dy (by omega)]) (by first | rfl | exact rf_wa (by omega) | exact rf_le (by omega) | exact rf_rw (by omega)) ?_
            refine ms_iload_n dX11_canTry_65 rfl ?_
            refine q_iald dX11_canTry_66 (by first | decide | exact lt_sc (by omega) | exact lt_dy (by omega) | exact lt_rw (by omega) | exact lt_wa (by omega) | exact lt_le (by omega)) (by first | rfl | exact sh_rw (by omega) | exact sh_wa (by omega) | exact sh_le (by omega)) (by omega) (by decide) rfl ?_
            refine ms_iconst (v := -1) dX11_canTry_67 (by decide) ?_
            refine ms_icmp_ne (tgt := 89) dX11_canTry_68 (by decide) (fun c68 => ?_) (fun c68 => ?_)
            · exact hye z1 (by unfold frR seR; rw [decide_eq_true (Or.inr (Or.inr c68)), Bool.not_true, Bool.and_false])
            · refine ms_aload_n dX11_canTry_71 rfl ?_
              refine q_getr dX11_canTry_72 fX11_47 kd_11_16 (by first | decide | exact lt_sc (by omega) | exact lt_dy (by omega) | exact lt_rw (by omega) | exact lt_wa (by omega) | exact lt_le (by omega)) (by first | rfl | rw [sh_sc (by omega)] | rw [sh_dy (by omega)]) (by first | rfl | exact rf_wa (by omega) | exact rf_le (by omega) | exact rf_rw (by omega)) ?_
              refine ms_iload_n dX11_canTry_75 rfl ?_
              refine q_zald dX11_canTry_76 (by first | decide | exact lt_sc (by omega) | exact lt_dy (by omega) | exact lt_rw (by omega) | exact lt_wa (by omega) | exact lt_le (by omega)) (by first | rfl | exact sh_rw (by omega) | exact sh_wa (by omega) | exact sh_le (by omega)) (by omega) (by decide) rfl ?_
              refine ms_if_ne (tgt := 89) dX11_canTry_77 (by decide) (fun c77 => ?_) (fun c77 => ?_)
              · exact hye z1 (by unfold frR seR; rw [decide_eq_true (Or.inr (Or.inl c77)), Bool.not_true, Bool.and_false])
              · refine ms_aload_n dX11_canTry_80 rfl ?_
                refine q_getr dX11_canTry_81 fX11_44 kd_11_15 (by first | decide | exact lt_sc (by omega) | exact lt_dy (by omega) | exact lt_rw (by omega) | exact lt_wa (by omega) | exact lt_le (by omega)) (by first | rfl | rw [sh_sc (by omega)] | rw [sh_dy (by omega)]) (by first | rfl | exact rf_wa (by omega) | exact rf_le (by omega) | exact rf_rw (by omega)) ?_
                refine ms_iload_n dX11_canTry_84 rfl ?_
                refine q_zald dX11_canTry_85 (by first | decide | exact lt_sc (by omega) | exact lt_dy (by omega) | exact lt_rw (by omega) | exact lt_wa (by omega) | exact lt_le (by omega)) (by first | rfl | exact sh_rw (by omega) | exact sh_wa (by omega) | exact sh_le (by omega)) (by omega) (by decide) rfl ?_
                refine ms_if_eq (tgt := 93) dX11_canTry_86 (by decide) (fun c86 => ?_) (fun c86 => ?_)
                · exact hno (Or.inr (by
                    unfold frR seR
                    rw [bi_n0.mp c58, decide_eq_false (fun z => z.elim (fun y => y c86) (fun z => z.elim (fun y => y c77) (fun y => y c68)))]; rfl))
                · exact hye z1 (by unfold frR seR; rw [decide_eq_true (Or.inl c86), Bool.not_true, Bool.and_false])
  have h0 : ∀ c, c = ctR I s 0 → m_W S (M_X11_canTry, d, fun w9 g9 => w9 = some (.int (bi (ctR I s m))) ∧ g9 = hh I lg, fun _ _ => False) 33 [some (.ref 143), some (.int (nI s)), none, none] [.int (bi c)] (hh I lg) 0 0 := by
    intro c hc
    subst hc
    refine ms_istore_n dX11_canTry_33 (Nat.le_of_ble_eq_true rfl) ?_
    refine ms_iconst (v := nI 0) dX11_canTry_34 (by decide) ?_
    refine ms_istore_n dX11_canTry_35 (Nat.le_of_ble_eq_true rfl) ?_
    exact loop (m + 1) 0 (by omega) (by omega)
  have hf : ¬ (I 155 s = 0 ∧ I 156 s = 0 ∧ I 159 s = -1) → ctR I s 0 = false := fun z => by
    unfold ctR loR looseB
    rw [decide_eq_false z]; rfl
  refine ms_aload_n dX11_canTry_0 rfl ?_
  refine q_getr dX11_canTry_1 fX11_44 kd_11_15 (by first | decide | exact lt_sc (by omega) | exact lt_dy (by omega) | exact lt_rw (by omega) | exact lt_wa (by omega) | exact lt_le (by omega)) (by first | rfl | rw [sh_sc (by omega)] | rw [sh_dy (by omega)]) (by first | rfl | exact rf_wa (by omega) | exact rf_le (by omega) | exact rf_rw (by omega)) ?_
  refine ms_iload_n dX11_canTry_4 rfl ?_
  refine q_zald dX11_canTry_5 (by first | decide | exact lt_sc (by omega) | exact lt_dy (by omega) | exact lt_rw (by omega) | exact lt_wa (by omega) | exact lt_le (by omega)) (by first | rfl | exact sh_rw (by omega) | exact sh_wa (by omega) | exact sh_le (by omega)) (by omega) (by decide) rfl ?_
  refine ms_if_ne (tgt := 32) dX11_canTry_6 (by decide) (fun c6 => ?_) (fun c6 => ?_)
  · refine ms_iconst (v := nI 0) dX11_canTry_32 (by decide) ?_
    exact h0 false (hf (fun z => c6 z.1)).symm
  · refine ms_aload_n dX11_canTry_9 rfl ?_
    refine q_getr dX11_canTry_10 fX11_47 kd_11_16 (by first | decide | exact lt_sc (by omega) | exact lt_dy (by omega) | exact lt_rw (by omega) | exact lt_wa (by omega) | exact lt_le (by omega)) (by first | rfl | rw [sh_sc (by omega)] | rw [sh_dy (by omega)]) (by first | rfl | exact rf_wa (by omega) | exact rf_le (by omega) | exact rf_rw (by omega)) ?_
    refine ms_iload_n dX11_canTry_13 rfl ?_
    refine q_zald dX11_canTry_14 (by first | decide | exact lt_sc (by omega) | exact lt_dy (by omega) | exact lt_rw (by omega) | exact lt_wa (by omega) | exact lt_le (by omega)) (by first | rfl | exact sh_rw (by omega) | exact sh_wa (by omega) | exact sh_le (by omega)) (by omega) (by decide) rfl ?_
    refine ms_if_ne (tgt := 32) dX11_canTry_15 (by decide) (fun c15 => ?_) (fun c15 => ?_)
    · refine ms_iconst (v := nI 0) dX11_canTry_32 (by decide) ?_
      exact h0 false (hf (fun z => c15 z.2.1)).symm
    · refine ms_aload_n dX11_canTry_18 rfl ?_
      refine q_getr dX11_canTry_19 fX11_56 kd_11_19 (by first | decide | exact lt_sc (by omega) | exact lt_dy (by omega) | exact lt_rw (by omega) | exact lt_wa (by omega) | exact lt_le (by omega)) (by first | rfl | rw [sh_sc (by omega)] | rw [sh_dy (by omega)]) (by first | rfl | exact rf_wa (by omega) | exact rf_le (by omega) | exact rf_rw (by omega)) ?_
      refine ms_iload_n dX11_canTry_22 rfl ?_
      refine q_iald dX11_canTry_23 (by first | decide | exact lt_sc (by omega) | exact lt_dy (by omega) | exact lt_rw (by omega) | exact lt_wa (by omega) | exact lt_le (by omega)) (by first | rfl | exact sh_rw (by omega) | exact sh_wa (by omega) | exact sh_le (by omega)) (by omega) (by decide) rfl ?_
      refine ms_iconst (v := -1) dX11_canTry_24 (by decide) ?_
      refine ms_icmp_ne (tgt := 32) dX11_canTry_25 (by decide) (fun c25 => ?_) (fun c25 => ?_)
      · refine ms_iconst (v := nI 0) dX11_canTry_32 (by decide) ?_
        exact h0 false (hf (fun z => c25 z.2.2)).symm
      · refine ms_iconst (v := nI 1) dX11_canTry_28 (by decide) ?_
        refine ms_goto (tgt := 33) dX11_canTry_29 (by decide) ?_
        refine h0 true ?_
        unfold ctR loR looseB
        rw [decide_eq_true ⟨c6, c15, c25⟩]; rfl
/-- a set of numbers, told one behind another -/
def stG (c : Nat → Bool) (o : Nat → Nat) : Nat → Int32
  | 0 => nI 0
  | k + 1 => stG c o k ||| (if c k then nI 1 <<< (nI (o k) &&& 31) else nI 0)
theorem stG_bt {c : Nat → Bool} {o : Nat → Nat} {i : Nat} (hi : i < 32) : ∀ k, (∀ j, j < k → o j < 32) → (bt (stG c o k) i = true ↔ ∃ j, j < k ∧ c j = true ∧ o j = i) := by
  intro k
  induction k with
  | zero => exact fun _ => ⟨fun z => absurd ((b_0 i).symm.trans z) (by decide), fun ⟨j, hj, _⟩ => absurd hj (Nat.not_lt_zero j)⟩
  | succ k ih =>
    intro ho
    have e : bt (stG c o (k + 1)) i = (bt (stG c o k) i || (c k && decide (i = o k))) := by
      show bt (stG c o k ||| _) i = _
      rw [b_or]
      congr 1
      cases c k
      · exact b_0 i
      · exact b_one (ho k (by omega)) hi
    rw [e, Bool.or_eq_true, ih (fun j hj => ho j (by omega)), Bool.and_eq_true, decide_eq_true_iff]
    refine ⟨fun z => ?_, fun ⟨j, h1, h2, h3⟩ => ?_⟩
    · rcases z with ⟨j, h1, h2⟩ | z
      · exact ⟨j, by omega, h2⟩
      · exact ⟨k, by omega, z.1, z.2.symm⟩
    · by_cases h4 : j = k
      · subst h4
        exact Or.inr ⟨h2, h3.symm⟩
      · exact Or.inl ⟨j, by omega, h2, h3⟩
theorem stG_f {c : Nat → Bool} {o : Nat → Nat} {i k : Nat} (hi : i < 32) (ho : ∀ j, j < k → o j < 32) (h : ∀ j, j < k → c j = true → o j ≠ i) : bt (stG c o k) i = false := by
  rcases Bool.eq_false_or_eq_true (bt (stG c o k) i) with z | z
  · obtain ⟨j, h1, h2, h3⟩ := (stG_bt hi k ho).mp z
    exact absurd h3 (h j h1 h2)
  · exact z
theorem stG_pc {c : Nat → Bool} {o : Nat → Nat} : ∀ k, (∀ j, j < k → o j < 30) → (∀ i j, i < k → j < k → o i = o j → i = j) → pc (stG c o k) 30 = fb_ct c k := by
  intro k
  induction k with
  | zero => exact fun _ _ => fb_ct_zero.mpr (fun i _ => b_0 i)
  | succ k ih =>
    intro ho hx
    have h1 := ih (fun j hj => ho j (by omega)) (fun i j hi hj => hx i j (by omega) (by omega))
    have hk := ho k (by omega)
    rw [fb_ct_succ]
    cases hc : c k
    · have e : pc (stG c o (k + 1)) 30 = pc (stG c o k) 30 := pc_cong (fun i hi => by
        show bt (stG c o k ||| _) i = _
        rw [b_or, hc]
        have e2 : bt (if false = true then nI 1 <<< (nI (o k) &&& 31) else nI 0) i = false := b_0 i
        rw [e2, Bool.or_false])
      rw [e, h1]
      rfl
    · have e : pc (stG c o (k + 1)) 30 = fb_ct (fun i => if i = o k then true else bt (stG c o k) i) 30 := fb_ct_cong (fun i hi => by
        show bt (stG c o k ||| _) i = _
        rw [b_or, hc]
        have e2 : bt (if true = true then nI 1 <<< (nI (o k) &&& 31) else nI 0) i = decide (i = o k) := b_one (by omega) (by omega)
        rw [e2]
        by_cases z : i = o k
        · rw [decide_eq_true z, if_pos z, Bool.or_true]
        · rw [decide_eq_false z, if_neg z, Bool.or_false])
      have e3 : bt (stG c o k) (o k) = false := stG_f (by omega) (fun j hj => by have := ho j (by omega); omega) (fun j hj _ z => by have := hx j k (by omega) (by omega) z; omega)
      have h2 := fb_ct_upd (fun i => bt (stG c o k) i) true (i := o k) (n := 30) hk
      rw [e3] at h2
      have h3 : fb_ct (fun i => bt (stG c o k) i) 30 = fb_ct c k := h1
      rw [e, if_pos rfl]
      rw [h3, if_pos rfl, if_neg (by decide)] at h2
      omega
/-- what things look like behind k scenes of the story; whether the k-th clashes -/
def lkG (om : Nat → Bool) (le : Nat → Nat → Int32) (o : Nat → Nat) : Nat → Nat → Int32
  | 0, _ => nI 0
  | k + 1, t => if om (o k) then lkG om le o k t else if le (o k) t = -1 then lkG om le o k t else le (o k) t
def ckT (om : Nat → Bool) (wa le : Nat → Nat → Int32) (o : Nat → Nat) (k t : Nat) : Bool := decide (¬ wa (o k) t = -1 ∧ ¬ wa (o k) t = lkG om le o k t)
def ckB (om : Nat → Bool) (wa le : Nat → Nat → Int32) (o : Nat → Nat) (k : Nat) : Bool := !om (o k) && anyB (ckT om wa le o k) 4
/-- the reference's looks behind k scenes, and t things of the next one -/
def lkI (I : m_I) (om : Nat → Bool) (le : Nat → Nat → Int32) (o : Nat → Nat) (k t : Nat) : m_I := fun a b => if a = 173 ∧ b < 4 then (if b < t then lkG om le o (k + 1) b else lkG om le o k b) else I a b
theorem lkI_ne {I : m_I} {om : Nat → Bool} {le : Nat → Nat → Int32} {o : Nat → Nat} {k t a b : Nat} (h : a ≠ 173) : lkI I om le o k t a b = I a b := if_neg (fun z => h z.1)
theorem lkI_row {I : m_I} {om : Nat → Bool} {le : Nat → Nat → Int32} {o : Nat → Nat} {k : Nat} : lkI I om le o k 4 = lkI I om le o (k + 1) 0 := by
  funext a b
  unfold lkI
  by_cases h : a = 173 ∧ b < 4
  · rw [if_pos h, if_pos h, if_pos h.2, if_neg (Nat.not_lt_zero b)]
  · rw [if_neg h, if_neg h]
theorem lkI_om {I : m_I} {om : Nat → Bool} {le : Nat → Nat → Int32} {o : Nat → Nat} {k : Nat} (h : om (o k) = true) : lkI I om le o k 0 = lkI I om le o (k + 1) 0 := by
  funext a b
  unfold lkI
  by_cases h1 : a = 173 ∧ b < 4
  · rw [if_pos h1, if_pos h1, if_neg (Nat.not_lt_zero b), if_neg (Nat.not_lt_zero b)]
    exact (if_pos h).symm
  · rw [if_neg h1, if_neg h1]
theorem lkI_step {I : m_I} {om : Nat → Bool} {le : Nat → Nat → Int32} {o : Nat → Nat} {k t : Nat} (h : om (o k) = false) (ht : t < 4) (x : Int32) (hx : x = if le (o k) t = -1 then lkG om le o k t else le (o k) t) : m_up2 (lkI I om le o k t) 173 t x = lkI I om le o k (t + 1) := by
  have e : x = lkG om le o (k + 1) t := by
    rw [hx]
    exact (if_neg (by rw [h]; decide)).symm
  funext a b
  unfold m_up2 lkI
  by_cases h1 : a = 173 ∧ b = t
  · rw [if_pos h1, if_pos ⟨h1.1, by omega⟩, if_pos (by omega), h1.2]
    exact e
  · rw [if_neg h1]
    by_cases h2 : a = 173 ∧ b < 4
    · rw [if_pos h2, if_pos h2]
      by_cases h3 : b < t
      · rw [if_pos h3, if_pos (by omega)]
      · rw [if_neg h3, if_neg (by omega)]
    · rw [if_neg h2, if_neg h2]
def omR (I : m_I) (s : Nat) : Bool := !decide (I 155 s = 0)
def waR (I : m_I) (s t : Nat) : Int32 := I 152 (4 * s + t)
def leR (I : m_I) (s t : Nat) : Int32 := I 153 (4 * s + t)
theorem kr_clashing {S : m_S} {I : m_I} {lg : Int64} {d m : Nat} {o : Nat → Nat} (hm : I 143 3 = nI m) (hm2 : m ≤ 20) (ho : ∀ k, k < m → I 144 k = nI (o k) ∧ o k < 20) : m_R S M_X11_clashing d [.ref 143] (hh I lg) (some (.int (stG (ckB (omR I) (waR I) (leR I) o) o m))) (hh (lkI I (omR I) (leR I) o m 0) lg) := by
  obtain ⟨om, hom⟩ : ∃ z, z = omR I := ⟨_, rfl⟩
  obtain ⟨wa, hwa⟩ : ∃ z, z = waR I := ⟨_, rfl⟩
  obtain ⟨le, hle⟩ : ∃ z, z = leR I := ⟨_, rfl⟩
  rw [← hom, ← hwa, ← hle]
  obtain ⟨r, hr⟩ : ∃ z, z = stG (ckB om wa le o) o := ⟨_, rfl⟩
  rw [← hr]
  have hrs : ∀ k, r (k + 1) = r k ||| (if ckB om wa le o k then nI 1 <<< (nI (o k) &&& 31) else nI 0) := fun k => by rw [hr]; rfl
  obtain ⟨H, hH⟩ : ∃ z, z = lkI I om le o := ⟨_, rfl⟩
  have hne : ∀ k t a b, a ≠ 173 → H k t a b = I a b := fun k t a b h => by rw [hH]; exact lkI_ne h
  have hlk : ∀ k t, t < 4 → H k t 173 t = lkG om le o k t := fun k t ht => by
    rw [hH]
    show (if 173 = 173 ∧ t < 4 then _ else _) = _
    rw [if_pos ⟨rfl, ht⟩, if_neg (Nat.lt_irrefl t)]
  rw [← hH]
  have loop2 : ∀ (q k : Nat) (d3 d4 d5 : Option Value), k ≤ m → m - k < q → m_W S (M_X11_clashing, d, fun w9 g => w9 = some (.int (r m)) ∧ g = hh (H m 0) lg, fun _ _ => False) 24 [some (.ref 143), some (.int (r k)), some (.int (nI k)), d3, d4, d5] [] (hh (H k 0) lg) 0 0 := by
    intro q
    induction q with
    | zero => intro k _ _ _ _ h; omega
    | succ q ih =>
      intro k d3 d4 d5 hk hq
      have hm' : H k 0 143 3 = nI m := (hne k 0 _ _ (by decide)).trans hm
      refine ms_iload_n dX11_clashing_24 rfl ?_
      refine ms_aload_n dX11_clashing_25 rfl ?_
      refine q_geti dX11_clashing_26 fX11_114 (by rw [kd_11_3]; decide) (by first | decide | exact lt_sc (by omega) | exact lt_dy (by omega) | exact lt_rw (by omega) | exact lt_wa (by omega) | exact lt_le (by omega)) (by first | rfl | rw [sh_sc (by omega)] | rw [sh_dy (by omega)]) (by first | assumption | ((repeat ((with_reducible apply m_up2_tr); · first | omega | (intro z; (try unfold scI at z); (try unfold dyI at z); (try unfold rwI at z); (try unfold waI at z); (try unfold leI at z); omega))); first | assumption | exact m_up2_eq | rfl)) ?_
      refine n_icmp_ge (tgt := 153) dX11_clashing_29 (by decide) (by omega) (by omega) (fun c29 => ?_) (fun c29 => ?_)
      · obtain rfl : k = m := by omega
        refine ms_iload_n dX11_clashing_153 rfl ?_
        refine ms_iret dX11_clashing_154 rfl rfl ⟨?_, ?_⟩
        · rfl
        · rfl
      · obtain ⟨o1, o2⟩ := ho k (by omega)
        have o1' : H k 0 144 k = nI (o k) := (hne k 0 _ _ (by decide)).trans o1
        have h9 := fun d3 d4 d5 => ih (k + 1) d3 d4 d5 (by omega) (by omega)
        have hom' : ∀ t, H k t 155 (o k) = I 155 (o k) := fun t => hne k t _ _ (by decide)
        by_cases hz : I 155 (o k) = 0
        · have eo : om (o k) = false := by rw [hom]; unfold omR; rw [decide_eq_true hz]; rfl
          have inner : ∀ (q t : Nat) (d5 : Option Value), t ≤ 4 → 4 - t < q → m_W S (M_X11_clashing, d, fun w9 g => w9 = some (.int (r m)) ∧ g = hh (H m 0) lg, fun _ _ => False) 42 [some (.ref 143), some (.int (r k ||| (if anyB (ckT om wa le o k) t then nI 1 <<< (nI (o k) &&& 31) else nI 0))), some (.int (nI k)), some (.int (nI (o k))), some (.int (nI t)), d5] [] (hh (H k t) lg) 0 0 := by
            intro q
            induction q with
            | zero => intro t _ _ h; omega
            | succ q ih2 =>
              intro t d5 ht hq
              refine ms_iload dX11_clashing_42 rfl ?_
              refine ms_iconst (v := nI 4) dX11_clashing_44 (by decide) ?_
              refine n_icmp_ge (tgt := 147) dX11_clashing_45 (by decide) (by omega) (by omega) (fun c45 => ?_) (fun c45 => ?_)
              · obtain rfl : t = 4 := by omega
                have e4 : r k ||| (if anyB (ckT om wa le o k) 4 then nI 1 <<< (nI (o k) &&& 31) else nI 0) = r (k + 1) := by
                  rw [hrs]
                  unfold ckB
                  rw [eo, Bool.not_false, Bool.true_and]
                have e5 : H k 4 = H (k + 1) 0 := by rw [hH]; exact lkI_row
                rw [e4, e5]
                refine n_iinc dX11_clashing_147 rfl ?_
                refine ms_goto (tgt := 24) dX11_clashing_150 (by decide) ?_
                exact h9 _ _ _
              · have ht4 : t < 4 := by omega
                have h8 := ih2 (t + 1) (some (.int (wa (o k) t))) (by omega) (by omega)
                have ew : H k t 152 (4 * o k + t) = wa (o k) t := (hne k t _ _ (by decide)).trans (by rw [hwa]; rfl)
                have el : H k t 153 (4 * o k + t) = le (o k) t := (hne k t _ _ (by decide)).trans (by rw [hle]; rfl)
                have ek := hlk k t ht4
                have tail : ∀ y : Int32, y = (r k ||| (if anyB (ckT om wa le o k) (t + 1) then nI 1 <<< (nI (o k) &&& 31) else nI 0)) → m_W S (M_X11_clashing, d, fun w9 g => w9 = some (.int (r m)) ∧ g = hh (H m 0) lg, fun _ _ => False) 98 [some (.ref 143), some (.int y), some (.int (nI k)), some (.int (nI (o k))), some (.int (nI t)), some (.int (wa (o k) t))] [] (hh (H k t) lg) 0 0 := by
                  intro y hy
                  subst hy
                  refine ms_aload_n dX11_clashing_98 rfl ?_
                  refine q_getr dX11_clashing_99 fX11_98 kd_11_37 (by first | decide | exact lt_sc (by omega) | exact lt_dy (by omega) | exact lt_rw (by omega) | exact lt_wa (by omega) | exact lt_le (by omega)) (by first | rfl | rw [sh_sc (by omega)] | rw [sh_dy (by omega)]) (by first | rfl | exact rf_wa (by omega) | exact rf_le (by omega) | exact rf_rw (by omega)) ?_
                  refine ms_iload dX11_clashing_102 rfl ?_
                  refine ms_aload_n dX11_clashing_104 rfl ?_
                  refine q_getr dX11_clashing_105 fX11_38 kd_11_13 (by first | decide | exact lt_sc (by omega) | exact lt_dy (by omega) | exact lt_rw (by omega) | exact lt_wa (by omega) | exact lt_le (by omega)) (by first | rfl | rw [sh_sc (by omega)] | rw [sh_dy (by omega)]) (by first | rfl | exact rf_wa (by omega) | exact rf_le (by omega) | exact rf_rw (by omega)) ?_
                  refine ms_iconst (v := nI 4) dX11_clashing_108 (by decide) ?_
                  refine ms_iload_n dX11_clashing_109 rfl ?_
                  refine n_imul dX11_clashing_110 ?_
                  refine ms_iload dX11_clashing_111 rfl ?_
                  refine n_iadd dX11_clashing_113 ?_
                  refine q_iald dX11_clashing_114 (by first | decide | exact lt_sc (by omega) | exact lt_dy (by omega) | exact lt_rw (by omega) | exact lt_wa (by omega) | exact lt_le (by omega)) (by first | rfl | exact sh_rw (by omega) | exact sh_wa (by omega) | exact sh_le (by omega)) (by omega) (by decide) el ?_
                  refine ms_iconst (v := -1) dX11_clashing_115 (by decide) ?_
                  refine ms_icmp_eq (tgt := 133) dX11_clashing_116 (by decide) (fun c116 => ?_) (fun c116 => ?_)
                  · refine ms_aload_n dX11_clashing_133 rfl ?_
                    refine q_getr dX11_clashing_134 fX11_98 kd_11_37 (by first | decide | exact lt_sc (by omega) | exact lt_dy (by omega) | exact lt_rw (by omega) | exact lt_wa (by omega) | exact lt_le (by omega)) (by first | rfl | rw [sh_sc (by omega)] | rw [sh_dy (by omega)]) (by first | rfl | exact rf_wa (by omega) | exact rf_le (by omega) | exact rf_rw (by omega)) ?_
                    refine ms_iload dX11_clashing_137 rfl ?_
                    refine q_iald dX11_clashing_139 (by first | decide | exact lt_sc (by omega) | exact lt_dy (by omega) | exact lt_rw (by omega) | exact lt_wa (by omega) | exact lt_le (by omega)) (by first | rfl | exact sh_rw (by omega) | exact sh_wa (by omega) | exact sh_le (by omega)) (by omega) (by decide) ek ?_
                    refine q_iast dX11_clashing_140 (by first | decide | exact lt_sc (by omega) | exact lt_dy (by omega) | exact lt_rw (by omega) | exact lt_wa (by omega) | exact lt_le (by omega)) (by first | rfl | exact sh_rw (by omega) | exact sh_wa (by omega) | exact sh_le (by omega)) (by omega) (by decide) ?_
                    refine n_iinc dX11_clashing_141 rfl ?_
                    refine ms_goto (tgt := 42) dX11_clashing_144 (by decide) ?_
                    rw [show m_up2 (H k t) 173 t (lkG om le o k t) = H k (t + 1) by rw [hH]; exact lkI_step eo ht4 _ (if_pos c116).symm]
                    exact h8
                  · refine ms_aload_n dX11_clashing_119 rfl ?_
                    refine q_getr dX11_clashing_120 fX11_38 kd_11_13 (by first | decide | exact lt_sc (by omega) | exact lt_dy (by omega) | exact lt_rw (by omega) | exact lt_wa (by omega) | exact lt_le (by omega)) (by first | rfl | rw [sh_sc (by omega)] | rw [sh_dy (by omega)]) (by first | rfl | exact rf_wa (by omega) | exact rf_le (by omega) | exact rf_rw (by omega)) ?_
                    refine ms_iconst (v := nI 4) dX11_clashing_123 (by decide) ?_
                    refine ms_iload_n dX11_clashing_124 rfl ?_
                    refine n_imul dX11_clashing_125 ?_
                    refine ms_iload dX11_clashing_126 rfl ?_
                    refine n_iadd dX11_clashing_128 ?_
                    refine q_iald dX11_clashing_129 (by first | decide | exact lt_sc (by omega) | exact lt_dy (by omega) | exact lt_rw (by omega) | exact lt_wa (by omega) | exact lt_le (by omega)) (by first | rfl | exact sh_rw (by omega) | exact sh_wa (by omega) | exact sh_le (by omega)) (by omega) (by decide) el ?_
                    refine ms_goto (tgt := 140) dX11_clashing_130 (by decide) ?_
                    refine q_iast dX11_clashing_140 (by first | decide | exact lt_sc (by omega) | exact lt_dy (by omega) | exact lt_rw (by omega) | exact lt_wa (by omega) | exact lt_le (by omega)) (by first | rfl | exact sh_rw (by omega) | exact sh_wa (by omega) | exact sh_le (by omega)) (by omega) (by decide) ?_
                    refine n_iinc dX11_clashing_141 rfl ?_
                    refine ms_goto (tgt := 42) dX11_clashing_144 (by decide) ?_
                    rw [show m_up2 (H k t) 173 t (le (o k) t) = H k (t + 1) by rw [hH]; exact lkI_step eo ht4 _ (if_neg c116).symm]
                    exact h8
                have eS : anyB (ckT om wa le o k) (t + 1) = (anyB (ckT om wa le o k) t || ckT om wa le o k t) := rfl
                have eor : ∀ c b : Bool, ∀ x y : Int32, (x ||| (if c then y else nI 0)) ||| (if b then y else nI 0) = x ||| (if c || b then y else nI 0) := by
                  intro c b x y
                  have e0 : ∀ z : Int32, z ||| nI 0 = z := fun z => b_ext (fun i _ => by rw [b_or, show bt (nI 0) i = false from b_0 i, Bool.or_false])
                  cases c <;> cases b
                  · show (x ||| nI 0) ||| nI 0 = x ||| nI 0
                    rw [e0, e0]
                  · show (x ||| nI 0) ||| y = x ||| y
                    rw [e0]
                  · show (x ||| y) ||| nI 0 = x ||| y
                    rw [e0]
                  · show (x ||| y) ||| y = x ||| y
                    exact b_ext (fun i _ => by rw [b_or, b_or, Bool.or_assoc, Bool.or_self])
                have hot := hom' t
                refine ms_aload_n dX11_clashing_48 rfl ?_
                refine q_getr dX11_clashing_49 fX11_44 kd_11_15 (by first | decide | exact lt_sc (by omega) | exact lt_dy (by omega) | exact lt_rw (by omega) | exact lt_wa (by omega) | exact lt_le (by omega)) (by first | rfl | rw [sh_sc (by omega)] | rw [sh_dy (by omega)]) (by first | rfl | exact rf_wa (by omega) | exact rf_le (by omega) | exact rf_rw (by omega)) ?_
                refine ms_iload_n dX11_clashing_52 rfl ?_
                refine q_zald dX11_clashing_53 (by first | decide | exact lt_sc (by omega) | exact lt_dy (by omega) | exact lt_rw (by omega) | exact lt_wa (by omega) | exact lt_le (by omega)) (by first | rfl | exact sh_rw (by omega) | exact sh_wa (by omega) | exact sh_le (by omega)) (by omega) (by decide) hot ?_
                refine ms_if_ne (tgt := 147) dX11_clashing_54 (by decide) (fun c54 => ?_) (fun c54 => ?_)
                · exact absurd hz c54
                · refine ms_aload_n dX11_clashing_57 rfl ?_
                  refine q_getr dX11_clashing_58 fX11_35 kd_11_12 (by first | decide | exact lt_sc (by omega) | exact lt_dy (by omega) | exact lt_rw (by omega) | exact lt_wa (by omega) | exact lt_le (by omega)) (by first | rfl | rw [sh_sc (by omega)] | rw [sh_dy (by omega)]) (by first | rfl | exact rf_wa (by omega) | exact rf_le (by omega) | exact rf_rw (by omega)) ?_
                  refine ms_iconst (v := nI 4) dX11_clashing_61 (by decide) ?_
                  refine ms_iload_n dX11_clashing_62 rfl ?_
                  refine n_imul dX11_clashing_63 ?_
                  refine ms_iload dX11_clashing_64 rfl ?_
                  refine n_iadd dX11_clashing_66 ?_
                  refine q_iald dX11_clashing_67 (by first | decide | exact lt_sc (by omega) | exact lt_dy (by omega) | exact lt_rw (by omega) | exact lt_wa (by omega) | exact lt_le (by omega)) (by first | rfl | exact sh_rw (by omega) | exact sh_wa (by omega) | exact sh_le (by omega)) (by omega) (by decide) ew ?_
                  refine ms_istore dX11_clashing_68 (Nat.le_of_ble_eq_true rfl) ?_
                  refine ms_iload_n dX11_clashing_70 rfl ?_
                  refine ms_iload dX11_clashing_71 rfl ?_
                  refine ms_iconst (v := -1) dX11_clashing_73 (by decide) ?_
                  refine ms_icmp_eq (tgt := 95) dX11_clashing_74 (by decide) (fun c74 => ?_) (fun c74 => ?_)
                  · have e : ckT om wa le o k t = false := decide_eq_false (fun z => z.1 c74)
                    refine ms_iconst (v := nI 0) dX11_clashing_95 (by decide) ?_
                    refine ms_ior dX11_clashing_96 ?_
                    refine ms_istore_n dX11_clashing_97 (Nat.le_of_ble_eq_true rfl) ?_
                    refine tail _ ?_
                    rw [eS, e]
                    exact eor _ false _ _
                  · refine ms_iload dX11_clashing_77 rfl ?_
                    refine ms_aload_n dX11_clashing_79 rfl ?_
                    refine q_getr dX11_clashing_80 fX11_98 kd_11_37 (by first | decide | exact lt_sc (by omega) | exact lt_dy (by omega) | exact lt_rw (by omega) | exact lt_wa (by omega) | exact lt_le (by omega)) (by first | rfl | rw [sh_sc (by omega)] | rw [sh_dy (by omega)]) (by first | rfl | exact rf_wa (by omega) | exact rf_le (by omega) | exact rf_rw (by omega)) ?_
                    refine ms_iload dX11_clashing_83 rfl ?_
                    refine q_iald dX11_clashing_85 (by first | decide | exact lt_sc (by omega) | exact lt_dy (by omega) | exact lt_rw (by omega) | exact lt_wa (by omega) | exact lt_le (by omega)) (by first | rfl | exact sh_rw (by omega) | exact sh_wa (by omega) | exact sh_le (by omega)) (by omega) (by decide) ek ?_
                    refine ms_icmp_eq (tgt := 95) dX11_clashing_86 (by decide) (fun c86 => ?_) (fun c86 => ?_)
                    · have e : ckT om wa le o k t = false := decide_eq_false (fun z => z.2 c86)
                      refine ms_iconst (v := nI 0) dX11_clashing_95 (by decide) ?_
                      refine ms_ior dX11_clashing_96 ?_
                      refine ms_istore_n dX11_clashing_97 (Nat.le_of_ble_eq_true rfl) ?_
                      refine tail _ ?_
                      rw [eS, e]
                      exact eor _ false _ _
                    · have e : ckT om wa le o k t = true := decide_eq_true ⟨c74, c86⟩
                      refine ms_iconst (v := nI 1) dX11_clashing_89 (by decide) ?_
                      refine ms_iload_n dX11_clashing_90 rfl ?_
                      refine ms_ishl dX11_clashing_91 ?_
                      refine ms_goto (tgt := 96) dX11_clashing_92 (by decide) ?_
                      refine ms_ior dX11_clashing_96 ?_
                      refine ms_istore_n dX11_clashing_97 (Nat.le_of_ble_eq_true rfl) ?_
                      refine tail _ ?_
                      rw [eS, e]
                      exact eor _ true _ _
          have h7 := inner 5 0 d5 (by omega) (by omega)
          have e6 : r k ||| (if anyB (ckT om wa le o k) 0 then nI 1 <<< (nI (o k) &&& 31) else nI 0) = r k := by
            show r k ||| nI 0 = r k
            exact b_ext (fun i _ => by rw [b_or, show bt (nI 0) i = false from b_0 i, Bool.or_false])
          rw [e6] at h7
          refine ms_aload_n dX11_clashing_32 rfl ?_
          refine q_getr dX11_clashing_33 fX11_7 kd_11_4 (by first | decide | exact lt_sc (by omega) | exact lt_dy (by omega) | exact lt_rw (by omega) | exact lt_wa (by omega) | exact lt_le (by omega)) (by first | rfl | rw [sh_sc (by omega)] | rw [sh_dy (by omega)]) (by first | rfl | exact rf_wa (by omega) | exact rf_le (by omega) | exact rf_rw (by omega)) ?_
          refine ms_iload_n dX11_clashing_36 rfl ?_
          refine q_iald dX11_clashing_37 (by first | decide | exact lt_sc (by omega) | exact lt_dy (by omega) | exact lt_rw (by omega) | exact lt_wa (by omega) | exact lt_le (by omega)) (by first | rfl | exact sh_rw (by omega) | exact sh_wa (by omega) | exact sh_le (by omega)) (by omega) (by decide) (by first | assumption | ((repeat ((with_reducible apply m_up2_tr); · first | omega | (intro z; (try unfold scI at z); (try unfold dyI at z); (try unfold rwI at z); (try unfold waI at z); (try unfold leI at z); omega))); first | assumption | exact m_up2_eq | rfl)) ?_
          refine ms_istore_n dX11_clashing_38 (Nat.le_of_ble_eq_true rfl) ?_
          refine ms_iconst (v := nI 0) dX11_clashing_39 (by decide) ?_
          refine ms_istore dX11_clashing_40 (Nat.le_of_ble_eq_true rfl) ?_
          exact h7
        · have eo : om (o k) = true := by rw [hom]; unfold omR; rw [decide_eq_false hz]; rfl
          have e4 : r k = r (k + 1) := by
            rw [hrs]
            unfold ckB
            rw [eo]
            show r k = r k ||| nI 0
            exact b_ext (fun i _ => by rw [b_or, show bt (nI 0) i = false from b_0 i, Bool.or_false])
          have e5 : H k 0 = H (k + 1) 0 := by rw [hH]; exact lkI_om eo
          have h8 := h9 (some (.int (nI (o k)))) (some (.int (nI 0))) d5
          rw [← e4, ← e5] at h8
          have ho0 := hom' 0
          refine ms_aload_n dX11_clashing_32 rfl ?_
          refine q_getr dX11_clashing_33 fX11_7 kd_11_4 (by first | decide | exact lt_sc (by omega) | exact lt_dy (by omega) | exact lt_rw (by omega) | exact lt_wa (by omega) | exact lt_le (by omega)) (by first | rfl | rw [sh_sc (by omega)] | rw [sh_dy (by omega)]) (by first | rfl | exact rf_wa (by omega) | exact rf_le (by omega) | exact rf_rw (by omega)) ?_
          refine ms_iload_n dX11_clashing_36 rfl ?_
          refine q_iald dX11_clashing_37 (by first | decide | exact lt_sc (by omega) | exact lt_dy (by omega) | exact lt_rw (by omega) | exact lt_wa (by omega) | exact lt_le (by omega)) (by first | rfl | exact sh_rw (by omega) | exact sh_wa (by omega) | exact sh_le (by omega)) (by omega) (by decide) (by first | assumption | ((repeat ((with_reducible apply m_up2_tr); · first | omega | (intro z; (try unfold scI at z); (try unfold dyI at z); (try unfold rwI at z); (try unfold waI at z); (try unfold leI at z); omega))); first | assumption | exact m_up2_eq | rfl)) ?_
          refine ms_istore_n dX11_clashing_38 (Nat.le_of_ble_eq_true rfl) ?_
          refine ms_iconst (v := nI 0) dX11_clashing_39 (by decide) ?_
          refine ms_istore dX11_clashing_40 (Nat.le_of_ble_eq_true rfl) ?_
          refine ms_iload dX11_clashing_42 rfl ?_
          refine ms_iconst (v := nI 4) dX11_clashing_44 (by decide) ?_
          refine n_icmp_ge (tgt := 147) dX11_clashing_45 (by decide) (by omega) (by omega) (fun c45 => ?_) (fun c45 => ?_)
          · omega
          · refine ms_aload_n dX11_clashing_48 rfl ?_
            refine q_getr dX11_clashing_49 fX11_44 kd_11_15 (by first | decide | exact lt_sc (by omega) | exact lt_dy (by omega) | exact lt_rw (by omega) | exact lt_wa (by omega) | exact lt_le (by omega)) (by first | rfl | rw [sh_sc (by omega)] | rw [sh_dy (by omega)]) (by first | rfl | exact rf_wa (by omega) | exact rf_le (by omega) | exact rf_rw (by omega)) ?_
            refine ms_iload_n dX11_clashing_52 rfl ?_
            refine q_zald dX11_clashing_53 (by first | decide | exact lt_sc (by omega) | exact lt_dy (by omega) | exact lt_rw (by omega) | exact lt_wa (by omega) | exact lt_le (by omega)) (by first | rfl | exact sh_rw (by omega) | exact sh_wa (by omega) | exact sh_le (by omega)) (by omega) (by decide) ho0 ?_
            refine ms_if_ne (tgt := 147) dX11_clashing_54 (by decide) (fun c54 => ?_) (fun c54 => ?_)
            · refine n_iinc dX11_clashing_147 rfl ?_
              refine ms_goto (tgt := 24) dX11_clashing_150 (by decide) ?_
              exact h8
            · exact absurd c54 hz
  have loop1 : ∀ (q t : Nat), t ≤ 4 → 4 - t < q → m_W S (M_X11_clashing, d, fun w9 g => w9 = some (.int (r m)) ∧ g = hh (H m 0) lg, fun _ _ => False) 4 [some (.ref 143), some (.int (nI 0)), some (.int (nI t)), none, none, none] [] (hh (flI I 173 t (nI 0)) lg) 0 0 := by
    intro q
    induction q with
    | zero => intro t _ h; omega
    | succ q ih =>
      intro t ht hq
      refine ms_iload_n dX11_clashing_4 rfl ?_
      refine ms_iconst (v := nI 4) dX11_clashing_5 (by decide) ?_
      refine n_icmp_ge (tgt := 22) dX11_clashing_6 (by decide) (by omega) (by omega) (fun c6 => ?_) (fun c6 => ?_)
      · obtain rfl : t = 4 := by omega
        have e : flI I 173 4 (nI 0) = H 0 0 := by
          rw [hH]
          funext a b
          unfold flI lkI
          by_cases h : a = 173 ∧ b < 4
          · rw [if_pos h, if_pos h, if_neg (Nat.not_lt_zero b)]
            rfl
          · rw [if_neg h, if_neg h]
        rw [e]
        have h8 := loop2 (m + 1) 0 none none none (by omega) (by omega)
        rw [show r 0 = nI 0 by rw [hr]; rfl] at h8
        refine ms_iconst (v := nI 0) dX11_clashing_22 (by decide) ?_
        refine ms_istore_n dX11_clashing_23 (Nat.le_of_ble_eq_true rfl) ?_
        exact h8
      · refine ms_aload_n dX11_clashing_9 rfl ?_
        refine q_getr dX11_clashing_10 fX11_98 kd_11_37 (by first | decide | exact lt_sc (by omega) | exact lt_dy (by omega) | exact lt_rw (by omega) | exact lt_wa (by omega) | exact lt_le (by omega)) (by first | rfl | rw [sh_sc (by omega)] | rw [sh_dy (by omega)]) (by first | rfl | exact rf_wa (by omega) | exact rf_le (by omega) | exact rf_rw (by omega)) ?_
        refine ms_iload_n dX11_clashing_13 rfl ?_
        refine ms_iconst (v := nI 0) dX11_clashing_14 (by decide) ?_
        refine q_iast dX11_clashing_15 (by first | decide | exact lt_sc (by omega) | exact lt_dy (by omega) | exact lt_rw (by omega) | exact lt_wa (by omega) | exact lt_le (by omega)) (by first | rfl | exact sh_rw (by omega) | exact sh_wa (by omega) | exact sh_le (by omega)) (by omega) (by decide) ?_
        refine n_iinc dX11_clashing_16 rfl ?_
        refine ms_goto (tgt := 4) dX11_clashing_19 (by decide) ?_
        rw [flI_step]
        exact ih (t + 1) (by omega) (by omega)
  refine ms_iconst (v := nI 0) dX11_clashing_0 (by decide) ?_
  refine ms_istore_n dX11_clashing_1 (Nat.le_of_ble_eq_true rfl) ?_
  refine ms_iconst (v := nI 0) dX11_clashing_2 (by decide) ?_
  refine ms_istore_n dX11_clashing_3 (Nat.le_of_ble_eq_true rfl) ?_
  have h9 := loop1 5 0 (by omega) (by omega)
  rw [flI_0] at h9
  exact h9

