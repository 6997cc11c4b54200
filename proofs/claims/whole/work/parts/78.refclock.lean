-- NAME refclock
/-! the reference: its clock, who is called when, off a day -/
theorem rrM_ei {I : m_I} {bg en : Nat → Int32} {k : Nat} : eiR (rrM I bg en k) = eiR I := by
  unfold eiR
  rw [rrM_ne (by decide), rrM_ne (by decide)]
theorem kr_clock {S : m_S} {I : m_I} {lg : Int64} {d t n : Nat} {w pl : Nat → Nat} (hd : 2 ≤ d) (hD : Dr I t n w) (hp : ∀ j, j < n → I 147 (w j) = nI (pl j) ∧ pl j < 6) : m_R S M_X11_clock d [.ref 143, .int (nI t)] (hh I lg) none (hh (rrM I (bgG (I 168 t) (laR I w) (moR I pl)) (enG (I 168 t) (laR I w) (moR I pl)) n) lg) := by
  obtain ⟨ht, hn, hn2, hw⟩ := hD
  obtain ⟨st, hst⟩ : ∃ z, z = I 168 t := ⟨_, rfl⟩
  obtain ⟨las, hlas⟩ : ∃ z, z = laR I w := ⟨_, rfl⟩
  obtain ⟨mv, hmv⟩ : ∃ z, z = moR I pl := ⟨_, rfl⟩
  rw [← hst, ← hlas, ← hmv]
  obtain ⟨H, hH⟩ : ∃ H : Nat → m_I, H = rrM I (bgG st las mv) (enG st las mv) := ⟨_, rfl⟩
  have hne : ∀ k a b, a ≠ 174 ∧ a ≠ 175 → H k a b = I a b := fun k a b h => by rw [hH]; exact rrM_ne h
  have hstep : ∀ k, m_up2 (m_up2 (H k) 174 k (bgG st las mv k)) 175 k (enG st las mv k) = H (k + 1) := fun k => by rw [hH]; exact rrM_step I _ _ k
  have hH0 : H 0 = I := by rw [hH]; exact rrM_0 I _ _
  have hei : ∀ k, m_R S M_X11_eighth (d - 1) [.ref 143] (hh (H k) lg) (some (.int (eiR I))) (hh (H k) lg) := fun k => by
    have e := kr_eighth (S := S) (I := H k) (lg := lg) (d := d - 1)
    rw [show eiR (H k) = eiR I by rw [hH]; exact rrM_ei] at e
    exact e
  rw [← hH]
  have loop : ∀ (q k : Nat) (d5 d6 d7 : Option Value), k ≤ n → n - k < q → m_W S (M_X11_clock, d, fun w9 g => w9 = none ∧ g = hh (H n) lg, fun _ _ => False) 12 [some (.ref 143), some (.int (nI t)), some (.int (bi (ckG st las mv k).2)), some (.int (ckG st las mv k).1), some (.int (nI k)), d5, d6, d7] [] (hh (H k) lg) 0 0 := by
    intro q
    induction q with
    | zero => intro k _ _ _ _ h; omega
    | succ q ih =>
      intro k d5 d6 d7 hk hq
      have hn' : H k 172 t = nI n := (hne k _ _ (by decide)).trans hn
      have hs' : H k 168 t = st := (hne k _ _ (by decide)).trans hst.symm
      refine ms_iload dX11_clock_12 rfl ?_
      refine ms_aload_n dX11_clock_14 rfl ?_
      refine q_getr dX11_clock_15 fX11_95 kd_11_36 (by first | decide | exact lt_sc (by omega) | exact lt_dy (by omega) | exact lt_rw (by omega) | exact lt_wa (by omega) | exact lt_le (by omega)) (by first | rfl | rw [sh_sc (by omega)] | rw [sh_dy (by omega)]) (by first | rfl | exact rf_wa (by omega) | exact rf_le (by omega) | exact rf_rw (by omega)) ?_
      refine ms_iload_n dX11_clock_18 rfl ?_
      refine q_iald dX11_clock_19 (by first | decide | exact lt_sc (by omega) | exact lt_dy (by omega) | exact lt_rw (by omega) | exact lt_wa (by omega) | exact lt_le (by omega)) (by first | rfl | exact sh_rw (by omega) | exact sh_wa (by omega) | exact sh_le (by omega)) (by omega) (by decide) (by first | assumption | ((repeat ((with_reducible apply m_up2_tr); · first | omega | (intro z; (try unfold scI at z); (try unfold dyI at z); (try unfold rwI at z); (try unfold waI at z); (try unfold leI at z); omega))); first | assumption | exact m_up2_eq | rfl)) ?_
      refine n_icmp_ge (tgt := 197) dX11_clock_20 (by decide) (by omega) (by omega) (fun c20 => ?_) (fun c20 => ?_)
      · obtain rfl : k = n := by omega
        refine ms_vret dX11_clock_197 rfl rfl ⟨rfl, ?_⟩
        · rfl
      · obtain ⟨w1, w2⟩ := hw k (by omega)
        obtain ⟨p1, p2⟩ := hp k (by omega)
        have w1' : H k 171 (8 * t + k) = nI (w k) := (hne k _ _ (by decide)).trans w1
        have p1' : H k 147 (w k) = nI (pl k) := (hne k _ _ (by decide)).trans p1
        have hla : las k = if I 156 (w k) = 0 then I 150 (w k) * eiR I else I 158 (w k) := by rw [hlas]; rfl
        have tail2 : ∀ (x : Int32) (lu : Bool) (d6 : Option Value), x = bgG st las mv k → lu = ((ckG st las mv k).2 || luG st las mv k) → m_W S (M_X11_clock, d, fun w9 g => w9 = none ∧ g = hh (H n) lg, fun _ _ => False) 170 [some (.ref 143), some (.int (nI t)), some (.int (bi lu)), some (.int x), some (.int (nI k)), some (.int (nI (w k))), d6, some (.int (las k))] [] (hh (H k) lg) 0 0 := by
          intro x lu d6 hx hlu
          have h9 := ih (k + 1) (some (.int (nI (w k)))) d6 (some (.int (las k))) (by omega) (by omega)
          rw [ckG_succ, ← hstep] at h9
          subst hx; subst hlu
          refine ms_aload_n dX11_clock_170 rfl ?_
          refine q_getr dX11_clock_171 fX11_101 kd_11_38 (by first | decide | exact lt_sc (by omega) | exact lt_dy (by omega) | exact lt_rw (by omega) | exact lt_wa (by omega) | exact lt_le (by omega)) (by first | rfl | rw [sh_sc (by omega)] | rw [sh_dy (by omega)]) (by first | rfl | exact rf_wa (by omega) | exact rf_le (by omega) | exact rf_rw (by omega)) ?_
          refine ms_iload dX11_clock_174 rfl ?_
          refine ms_iload_n dX11_clock_176 rfl ?_
          refine q_iast dX11_clock_177 (by first | decide | exact lt_sc (by omega) | exact lt_dy (by omega) | exact lt_rw (by omega) | exact lt_wa (by omega) | exact lt_le (by omega)) (by first | rfl | exact sh_rw (by omega) | exact sh_wa (by omega) | exact sh_le (by omega)) (by omega) (by decide) ?_
          refine ms_iload_n dX11_clock_178 rfl ?_
          refine ms_iload dX11_clock_179 rfl ?_
          refine ms_iadd dX11_clock_181 ?_
          refine ms_istore_n dX11_clock_182 (Nat.le_of_ble_eq_true rfl) ?_
          refine ms_aload_n dX11_clock_183 rfl ?_
          refine q_getr dX11_clock_184 fX11_104 kd_11_39 (by first | decide | exact lt_sc (by omega) | exact lt_dy (by omega) | exact lt_rw (by omega) | exact lt_wa (by omega) | exact lt_le (by omega)) (by first | rfl | rw [sh_sc (by omega)] | rw [sh_dy (by omega)]) (by first | rfl | exact rf_wa (by omega) | exact rf_le (by omega) | exact rf_rw (by omega)) ?_
          refine ms_iload dX11_clock_187 rfl ?_
          refine ms_iload_n dX11_clock_189 rfl ?_
          refine q_iast dX11_clock_190 (by first | decide | exact lt_sc (by omega) | exact lt_dy (by omega) | exact lt_rw (by omega) | exact lt_wa (by omega) | exact lt_le (by omega)) (by first | rfl | exact sh_rw (by omega) | exact sh_wa (by omega) | exact sh_le (by omega)) (by omega) (by decide) ?_
          refine n_iinc dX11_clock_191 rfl ?_
          refine ms_goto (tgt := 12) dX11_clock_194 (by decide) ?_
          exact h9
        have tail : ∀ (x : Int32) (d6 : Option Value), x = (ckG st las mv k).1 + mv k → m_W S (M_X11_clock, d, fun w9 g => w9 = none ∧ g = hh (H n) lg, fun _ _ => False) 144 [some (.ref 143), some (.int (nI t)), some (.int (bi (ckG st las mv k).2)), some (.int x), some (.int (nI k)), some (.int (nI (w k))), d6, some (.int (las k))] [] (hh (H k) lg) 0 0 := by
          intro x d6 hx
          refine ms_iload_n dX11_clock_144 rfl ?_
          refine ms_if_ne (tgt := 170) dX11_clock_145 (by decide) (fun c145 => ?_) (fun c145 => ?_)
          · have e : luG st las mv k = false := by unfold luG; rw [bi_n0.mp c145]; rfl
            refine tail2 x _ d6 ?_ ?_
            · unfold bgG; rw [e, hx]; rfl
            · rw [e, Bool.or_false]
          · refine ms_iload_n dX11_clock_148 rfl ?_
            refine ms_iload dX11_clock_149 rfl ?_
            refine ms_iadd dX11_clock_151 ?_
            refine ms_aload_n dX11_clock_152 rfl ?_
            refine q_getr dX11_clock_153 fX11_83 kd_11_32 (by first | decide | exact lt_sc (by omega) | exact lt_dy (by omega) | exact lt_rw (by omega) | exact lt_wa (by omega) | exact lt_le (by omega)) (by first | rfl | rw [sh_sc (by omega)] | rw [sh_dy (by omega)]) (by first | rfl | exact rf_wa (by omega) | exact rf_le (by omega) | exact rf_rw (by omega)) ?_
            refine ms_iload_n dX11_clock_156 rfl ?_
            refine q_iald dX11_clock_157 (by first | decide | exact lt_sc (by omega) | exact lt_dy (by omega) | exact lt_rw (by omega) | exact lt_wa (by omega) | exact lt_le (by omega)) (by first | rfl | exact sh_rw (by omega) | exact sh_wa (by omega) | exact sh_le (by omega)) (by omega) (by decide) hs' ?_
            refine ms_sipush (v := nI 360) dX11_clock_158 (by decide) ?_
            refine ms_iadd dX11_clock_161 ?_
            refine ms_icmp_le (tgt := 170) dX11_clock_162 (by decide) (fun c162 => ?_) (fun c162 => ?_)
            · have e : luG st las mv k = false := by
                unfold luG
                rw [← hx, decide_eq_false (Int32.not_lt.mpr c162), Bool.and_false]
              refine tail2 x _ d6 ?_ ?_
              · unfold bgG; rw [e, hx]; rfl
              · rw [e, Bool.or_false]
            · have e : luG st las mv k = true := by
                unfold luG
                rw [← hx, decide_eq_true (Int32.not_le.mp c162), bi_0.mp c145]; rfl
              refine ms_iconst (v := nI 1) dX11_clock_165 (by decide) ?_
              refine ms_istore_n dX11_clock_166 (Nat.le_of_ble_eq_true rfl) ?_
              refine ms_iinc dX11_clock_167 rfl (show x + Int32.ofInt 30 = x + nI 30 from rfl) ?_
              refine tail2 (x + nI 30) true d6 ?_ ?_
              · unfold bgG; rw [e, hx]; rfl
              · rw [e, Bool.or_true]
        have mid : ∀ (x : Int32) (d6 d7 : Option Value), x = (ckG st las mv k).1 + mv k → m_W S (M_X11_clock, d, fun w9 g => w9 = none ∧ g = hh (H n) lg, fun _ _ => False) 110 [some (.ref 143), some (.int (nI t)), some (.int (bi (ckG st las mv k).2)), some (.int x), some (.int (nI k)), some (.int (nI (w k))), d6, d7] [] (hh (H k) lg) 0 0 := by
          intro x d6 d7 hx
          have v1 := hne k 156 (w k) (by decide)
          have v2 := hne k 150 (w k) (by decide)
          have v3 := hne k 158 (w k) (by decide)
          refine ms_aload_n dX11_clock_110 rfl ?_
          refine q_getr dX11_clock_111 fX11_47 kd_11_16 (by first | decide | exact lt_sc (by omega) | exact lt_dy (by omega) | exact lt_rw (by omega) | exact lt_wa (by omega) | exact lt_le (by omega)) (by first | rfl | rw [sh_sc (by omega)] | rw [sh_dy (by omega)]) (by first | rfl | exact rf_wa (by omega) | exact rf_le (by omega) | exact rf_rw (by omega)) ?_
          refine ms_iload dX11_clock_114 rfl ?_
          refine q_zald dX11_clock_116 (by first | decide | exact lt_sc (by omega) | exact lt_dy (by omega) | exact lt_rw (by omega) | exact lt_wa (by omega) | exact lt_le (by omega)) (by first | rfl | exact sh_rw (by omega) | exact sh_wa (by omega) | exact sh_le (by omega)) (by omega) (by decide) v1 ?_
          refine ms_if_eq (tgt := 130) dX11_clock_117 (by decide) (fun c117 => ?_) (fun c117 => ?_)
          · refine ms_aload_n dX11_clock_130 rfl ?_
            refine q_getr dX11_clock_131 fX11_29 kd_11_10 (by first | decide | exact lt_sc (by omega) | exact lt_dy (by omega) | exact lt_rw (by omega) | exact lt_wa (by omega) | exact lt_le (by omega)) (by first | rfl | rw [sh_sc (by omega)] | rw [sh_dy (by omega)]) (by first | rfl | exact rf_wa (by omega) | exact rf_le (by omega) | exact rf_rw (by omega)) ?_
            refine ms_iload dX11_clock_134 rfl ?_
            refine q_iald dX11_clock_136 (by first | decide | exact lt_sc (by omega) | exact lt_dy (by omega) | exact lt_rw (by omega) | exact lt_wa (by omega) | exact lt_le (by omega)) (by first | rfl | exact sh_rw (by omega) | exact sh_wa (by omega) | exact sh_le (by omega)) (by omega) (by decide) v2 ?_
            refine ms_aload_n dX11_clock_137 rfl ?_
            refine qRV0 dX11_clock_138 kX11_178 (by show _ < 178; first | decide | exact lt_sc (by omega) | exact lt_dy (by omega)) (by show (sh0 _).1 = _; first | rfl | rw [sh_sc (by omega)] | rw [sh_dy (by omega)]) (d := d - 1) (by show d - 1 + 1 ≤ d; omega)  (Nat.le_of_ble_eq_true rfl) (Nat.le_of_ble_eq_true rfl) (hei k) rfl ?_
            refine ms_imul dX11_clock_141 ?_
            refine ms_istore dX11_clock_142 (Nat.le_of_ble_eq_true rfl) ?_
            rw [show I 150 (w k) * eiR I = las k by rw [hla, if_pos c117]]
            exact tail x d6 hx
          · refine ms_aload_n dX11_clock_120 rfl ?_
            refine q_getr dX11_clock_121 fX11_53 kd_11_18 (by first | decide | exact lt_sc (by omega) | exact lt_dy (by omega) | exact lt_rw (by omega) | exact lt_wa (by omega) | exact lt_le (by omega)) (by first | rfl | rw [sh_sc (by omega)] | rw [sh_dy (by omega)]) (by first | rfl | exact rf_wa (by omega) | exact rf_le (by omega) | exact rf_rw (by omega)) ?_
            refine ms_iload dX11_clock_124 rfl ?_
            refine q_iald dX11_clock_126 (by first | decide | exact lt_sc (by omega) | exact lt_dy (by omega) | exact lt_rw (by omega) | exact lt_wa (by omega) | exact lt_le (by omega)) (by first | rfl | exact sh_rw (by omega) | exact sh_wa (by omega) | exact sh_le (by omega)) (by omega) (by decide) v3 ?_
            refine ms_goto (tgt := 142) dX11_clock_127 (by decide) ?_
            refine ms_istore dX11_clock_142 (Nat.le_of_ble_eq_true rfl) ?_
            rw [show I 158 (w k) = las k by rw [hla, if_neg c117]]
            exact tail x d6 hx
        refine ms_aload_n dX11_clock_23 rfl ?_
        refine q_getr dX11_clock_24 fX11_92 kd_11_35 (by first | decide | exact lt_sc (by omega) | exact lt_dy (by omega) | exact lt_rw (by omega) | exact lt_wa (by omega) | exact lt_le (by omega)) (by first | rfl | rw [sh_sc (by omega)] | rw [sh_dy (by omega)]) (by first | rfl | exact rf_wa (by omega) | exact rf_le (by omega) | exact rf_rw (by omega)) ?_
        refine ms_bipush (v := nI 8) dX11_clock_27 (by decide) ?_
        refine ms_iload_n dX11_clock_29 rfl ?_
        refine n_imul dX11_clock_30 ?_
        refine ms_iload dX11_clock_31 rfl ?_
        refine n_iadd dX11_clock_33 ?_
        refine q_iald dX11_clock_34 (by first | decide | exact lt_sc (by omega) | exact lt_dy (by omega) | exact lt_rw (by omega) | exact lt_wa (by omega) | exact lt_le (by omega)) (by first | rfl | exact sh_rw (by omega) | exact sh_wa (by omega) | exact sh_le (by omega)) (by omega) (by decide) w1' ?_
        refine ms_istore dX11_clock_35 (Nat.le_of_ble_eq_true rfl) ?_
        refine ms_iload dX11_clock_37 rfl ?_
        refine ms_if_ne (tgt := 47) dX11_clock_39 (by decide) (fun c39 => ?_) (fun c39 => ?_)
        · have hk0 : 1 ≤ k := Nat.pos_of_ne_zero (fun z => c39 (by rw [z]; rfl))
          obtain ⟨w3, w4⟩ := hw (k - 1) (by omega)
          obtain ⟨p3, p4⟩ := hp (k - 1) (by omega)
          have w3' : H k 171 (8 * t + k - 1) = nI (w (k - 1)) := by
            rw [show 8 * t + k - 1 = 8 * t + (k - 1) by omega]
            exact (hne k _ _ (by decide)).trans w3
          have p3' : H k 147 (w (k - 1)) = nI (pl (k - 1)) := (hne k _ _ (by decide)).trans p3
          have v4 := hne k 167 (6 * pl (k - 1) + pl k) (by decide)
          refine ms_aload_n dX11_clock_47 rfl ?_
          refine q_getr dX11_clock_48 fX11_92 kd_11_35 (by first | decide | exact lt_sc (by omega) | exact lt_dy (by omega) | exact lt_rw (by omega) | exact lt_wa (by omega) | exact lt_le (by omega)) (by first | rfl | rw [sh_sc (by omega)] | rw [sh_dy (by omega)]) (by first | rfl | exact rf_wa (by omega) | exact rf_le (by omega) | exact rf_rw (by omega)) ?_
          refine ms_bipush (v := nI 8) dX11_clock_51 (by decide) ?_
          refine ms_iload_n dX11_clock_53 rfl ?_
          refine n_imul dX11_clock_54 ?_
          refine ms_iload dX11_clock_55 rfl ?_
          refine n_iadd dX11_clock_57 ?_
          refine ms_iconst (v := nI 1) dX11_clock_58 (by decide) ?_
          refine n_isub dX11_clock_59 (by omega) ?_
          refine q_iald dX11_clock_60 (by first | decide | exact lt_sc (by omega) | exact lt_dy (by omega) | exact lt_rw (by omega) | exact lt_wa (by omega) | exact lt_le (by omega)) (by first | rfl | exact sh_rw (by omega) | exact sh_wa (by omega) | exact sh_le (by omega)) (by omega) (by decide) w3' ?_
          refine ms_istore dX11_clock_61 (Nat.le_of_ble_eq_true rfl) ?_
          refine ms_iload_n dX11_clock_63 rfl ?_
          refine ms_aload_n dX11_clock_64 rfl ?_
          refine q_getr dX11_clock_65 fX11_19 kd_11_7 (by first | decide | exact lt_sc (by omega) | exact lt_dy (by omega) | exact lt_rw (by omega) | exact lt_wa (by omega) | exact lt_le (by omega)) (by first | rfl | rw [sh_sc (by omega)] | rw [sh_dy (by omega)]) (by first | rfl | exact rf_wa (by omega) | exact rf_le (by omega) | exact rf_rw (by omega)) ?_
          refine ms_iload dX11_clock_68 rfl ?_
          refine q_iald dX11_clock_70 (by first | decide | exact lt_sc (by omega) | exact lt_dy (by omega) | exact lt_rw (by omega) | exact lt_wa (by omega) | exact lt_le (by omega)) (by first | rfl | exact sh_rw (by omega) | exact sh_wa (by omega) | exact sh_le (by omega)) (by omega) (by decide) p3' ?_
          refine ms_aload_n dX11_clock_71 rfl ?_
          refine q_getr dX11_clock_72 fX11_19 kd_11_7 (by first | decide | exact lt_sc (by omega) | exact lt_dy (by omega) | exact lt_rw (by omega) | exact lt_wa (by omega) | exact lt_le (by omega)) (by first | rfl | rw [sh_sc (by omega)] | rw [sh_dy (by omega)]) (by first | rfl | exact rf_wa (by omega) | exact rf_le (by omega) | exact rf_rw (by omega)) ?_
          refine ms_iload dX11_clock_75 rfl ?_
          refine q_iald dX11_clock_77 (by first | decide | exact lt_sc (by omega) | exact lt_dy (by omega) | exact lt_rw (by omega) | exact lt_wa (by omega) | exact lt_le (by omega)) (by first | rfl | exact sh_rw (by omega) | exact sh_wa (by omega) | exact sh_le (by omega)) (by omega) (by decide) p1' ?_
          refine n_icmp_ne (tgt := 85) dX11_clock_78 (by decide) (by omega) (by omega) (fun c78 => ?_) (fun c78 => ?_)
          · refine ms_aload_n dX11_clock_85 rfl ?_
            refine q_getr dX11_clock_86 fX11_80 kd_11_31 (by first | decide | exact lt_sc (by omega) | exact lt_dy (by omega) | exact lt_rw (by omega) | exact lt_wa (by omega) | exact lt_le (by omega)) (by first | rfl | rw [sh_sc (by omega)] | rw [sh_dy (by omega)]) (by first | rfl | exact rf_wa (by omega) | exact rf_le (by omega) | exact rf_rw (by omega)) ?_
            refine ms_bipush (v := nI 6) dX11_clock_89 (by decide) ?_
            refine ms_aload_n dX11_clock_91 rfl ?_
            refine q_getr dX11_clock_92 fX11_19 kd_11_7 (by first | decide | exact lt_sc (by omega) | exact lt_dy (by omega) | exact lt_rw (by omega) | exact lt_wa (by omega) | exact lt_le (by omega)) (by first | rfl | rw [sh_sc (by omega)] | rw [sh_dy (by omega)]) (by first | rfl | exact rf_wa (by omega) | exact rf_le (by omega) | exact rf_rw (by omega)) ?_
            refine ms_iload dX11_clock_95 rfl ?_
            refine q_iald dX11_clock_97 (by first | decide | exact lt_sc (by omega) | exact lt_dy (by omega) | exact lt_rw (by omega) | exact lt_wa (by omega) | exact lt_le (by omega)) (by first | rfl | exact sh_rw (by omega) | exact sh_wa (by omega) | exact sh_le (by omega)) (by omega) (by decide) p3' ?_
            refine n_imul dX11_clock_98 ?_
            refine ms_aload_n dX11_clock_99 rfl ?_
            refine q_getr dX11_clock_100 fX11_19 kd_11_7 (by first | decide | exact lt_sc (by omega) | exact lt_dy (by omega) | exact lt_rw (by omega) | exact lt_wa (by omega) | exact lt_le (by omega)) (by first | rfl | rw [sh_sc (by omega)] | rw [sh_dy (by omega)]) (by first | rfl | exact rf_wa (by omega) | exact rf_le (by omega) | exact rf_rw (by omega)) ?_
            refine ms_iload dX11_clock_103 rfl ?_
            refine q_iald dX11_clock_105 (by first | decide | exact lt_sc (by omega) | exact lt_dy (by omega) | exact lt_rw (by omega) | exact lt_wa (by omega) | exact lt_le (by omega)) (by first | rfl | exact sh_rw (by omega) | exact sh_wa (by omega) | exact sh_le (by omega)) (by omega) (by decide) p1' ?_
            refine n_iadd dX11_clock_106 ?_
            refine q_iald dX11_clock_107 (by first | decide | exact lt_sc (by omega) | exact lt_dy (by omega) | exact lt_rw (by omega) | exact lt_wa (by omega) | exact lt_le (by omega)) (by first | rfl | exact sh_rw (by omega) | exact sh_wa (by omega) | exact sh_le (by omega)) (by omega) (by decide) v4 ?_
            refine ms_iadd dX11_clock_108 ?_
            refine ms_istore_n dX11_clock_109 (Nat.le_of_ble_eq_true rfl) ?_
            refine mid _ _ _ ?_
            rw [hmv]
            unfold moR
            rw [if_neg (by omega), if_neg c78]
          · refine ms_iconst (v := nI 0) dX11_clock_81 (by decide) ?_
            refine ms_goto (tgt := 108) dX11_clock_82 (by decide) ?_
            refine ms_iadd dX11_clock_108 ?_
            refine ms_istore_n dX11_clock_109 (Nat.le_of_ble_eq_true rfl) ?_
            refine mid _ _ _ ?_
            rw [hmv]
            unfold moR
            rw [if_neg (by omega), if_pos c78]
        · have hk0 : k = 0 := (nI_eq (by omega) (by omega)).mp c39
          refine ms_iload dX11_clock_42 rfl ?_
          refine ms_goto (tgt := 61) dX11_clock_44 (by decide) ?_
          refine ms_istore dX11_clock_61 (Nat.le_of_ble_eq_true rfl) ?_
          refine ms_iload_n dX11_clock_63 rfl ?_
          refine ms_aload_n dX11_clock_64 rfl ?_
          refine q_getr dX11_clock_65 fX11_19 kd_11_7 (by first | decide | exact lt_sc (by omega) | exact lt_dy (by omega) | exact lt_rw (by omega) | exact lt_wa (by omega) | exact lt_le (by omega)) (by first | rfl | rw [sh_sc (by omega)] | rw [sh_dy (by omega)]) (by first | rfl | exact rf_wa (by omega) | exact rf_le (by omega) | exact rf_rw (by omega)) ?_
          refine ms_iload dX11_clock_68 rfl ?_
          refine q_iald dX11_clock_70 (by first | decide | exact lt_sc (by omega) | exact lt_dy (by omega) | exact lt_rw (by omega) | exact lt_wa (by omega) | exact lt_le (by omega)) (by first | rfl | exact sh_rw (by omega) | exact sh_wa (by omega) | exact sh_le (by omega)) (by omega) (by decide) p1' ?_
          refine ms_aload_n dX11_clock_71 rfl ?_
          refine q_getr dX11_clock_72 fX11_19 kd_11_7 (by first | decide | exact lt_sc (by omega) | exact lt_dy (by omega) | exact lt_rw (by omega) | exact lt_wa (by omega) | exact lt_le (by omega)) (by first | rfl | rw [sh_sc (by omega)] | rw [sh_dy (by omega)]) (by first | rfl | exact rf_wa (by omega) | exact rf_le (by omega) | exact rf_rw (by omega)) ?_
          refine ms_iload dX11_clock_75 rfl ?_
          refine q_iald dX11_clock_77 (by first | decide | exact lt_sc (by omega) | exact lt_dy (by omega) | exact lt_rw (by omega) | exact lt_wa (by omega) | exact lt_le (by omega)) (by first | rfl | exact sh_rw (by omega) | exact sh_wa (by omega) | exact sh_le (by omega)) (by omega) (by decide) p1' ?_
          refine n_icmp_ne (tgt := 85) dX11_clock_78 (by decide) (by omega) (by omega) (fun c78 => ?_) (fun c78 => ?_)
          · exact absurd rfl c78
          · refine ms_iconst (v := nI 0) dX11_clock_81 (by decide) ?_
            refine ms_goto (tgt := 108) dX11_clock_82 (by decide) ?_
            refine ms_iadd dX11_clock_108 ?_
            refine ms_istore_n dX11_clock_109 (Nat.le_of_ble_eq_true rfl) ?_
            refine mid _ _ _ ?_
            rw [hmv]
            unfold moR
            rw [if_pos hk0]
  refine ms_iconst (v := nI 0) dX11_clock_0 (by decide) ?_
  refine ms_istore_n dX11_clock_1 (Nat.le_of_ble_eq_true rfl) ?_
  refine ms_aload_n dX11_clock_2 rfl ?_
  refine q_getr dX11_clock_3 fX11_83 kd_11_32 (by first | decide | exact lt_sc (by omega) | exact lt_dy (by omega) | exact lt_rw (by omega) | exact lt_wa (by omega) | exact lt_le (by omega)) (by first | rfl | rw [sh_sc (by omega)] | rw [sh_dy (by omega)]) (by first | rfl | exact rf_wa (by omega) | exact rf_le (by omega) | exact rf_rw (by omega)) ?_
  refine ms_iload_n dX11_clock_6 rfl ?_
  refine q_iald dX11_clock_7 (by first | decide | exact lt_sc (by omega) | exact lt_dy (by omega) | exact lt_rw (by omega) | exact lt_wa (by omega) | exact lt_le (by omega)) (by first | rfl | exact sh_rw (by omega) | exact sh_wa (by omega) | exact sh_le (by omega)) (by omega) (by decide) hst.symm ?_
  refine ms_istore_n dX11_clock_8 (Nat.le_of_ble_eq_true rfl) ?_
  refine ms_iconst (v := nI 0) dX11_clock_9 (by decide) ?_
  refine ms_istore dX11_clock_10 (Nat.le_of_ble_eq_true rfl) ?_
  have h9 := loop (n + 1) 0 none none none (by omega) (by omega)
  rw [hH0] at h9
  exact h9
theorem clG_w {pe bg : Nat → Int32} {pr x y : Int32} {p k : Nat} (h : bt (wkG pe k) p = true) : clG pe bg pr x p k = clG pe bg pr y p k := by
  induction k with
  | zero => exact absurd ((b_0 p).symm.trans h) (by decide)
  | succ k ih =>
    unfold clG
    by_cases e : bt (pe k) p = true ∧ bt (wkG pe k) p = false
    · rw [if_pos e, if_pos e]
    · rw [if_neg e, if_neg e]
      refine ih ?_
      have h2 : bt (wkG pe k ||| pe k) p = true := h
      rw [b_or] at h2
      rcases Bool.eq_false_or_eq_true (bt (wkG pe k) p) with z | z
      · exact z
      · rw [z, Bool.false_or] at h2
        exact absurd ⟨h2, z⟩ e
theorem clG_n {pe bg : Nat → Int32} {pr x : Int32} {p k : Nat} (h : bt (wkG pe k) p = false) : clG pe bg pr x p k = x := by
  induction k with
  | zero => rfl
  | succ k ih =>
    have h2 : bt (wkG pe k ||| pe k) p = false := h
    rw [b_or, Bool.or_eq_false_iff] at h2
    unfold clG
    rw [if_neg (fun z => by rw [h2.2] at z; cases z.1)]
    exact ih h2.1
theorem clG_down {pe bg : Nat → Int32} {pr x : Int32} {p k : Nat} : clG pe bg pr (if bt (pe k) p then bg k - pr else x) p k = clG pe bg pr x p (k + 1) := by
  conv => rhs; unfold clG
  rcases Bool.eq_false_or_eq_true (bt (wkG pe k) p) with z | z
  · exact (clG_w z).trans (Eq.symm (if_neg (fun q => by rw [z] at q; cases q.2)))
  · rw [clG_n z, clG_n z, z]
    rcases Bool.eq_false_or_eq_true (bt (pe k) p) with y | y
    · rw [y, if_pos rfl, if_pos ⟨rfl, rfl⟩]
    · rw [y, if_neg (by decide), if_neg (fun q => by cases q.1)]
theorem kr_callOf {S : m_S} {I : m_I} {lg : Int64} {d t n p : Nat} {w : Nat → Nat} {pe bg en : Nat → Int32} {pr : Int32} (wr : Bool) (hd : 2 ≤ d) (hD : Dr I t n w) (hp : p < 8) (hpe : ∀ j, j < n → I 151 (w j) = pe j) (hbg : ∀ j, j < n → I 174 j = bg j ∧ I 175 j = en j ∧ en j ≠ -10000) (hpr : I 162 p = pr) : m_R S M_X11_callOf d [.ref 143, .int (nI p), .int (nI t), .int (bi wr)] (hh I lg) (some (.int (if wr then wrG pe en (-10000) p n else clG pe bg pr (-10000) p n))) (hh I lg) := by
  obtain ⟨ht, hn, hn2, hw⟩ := hD
  obtain ⟨F, hF⟩ : ∃ z, z = clG pe bg pr (-10000) p n := ⟨_, rfl⟩
  obtain ⟨G, hG⟩ : ∃ z, z = wrG pe en (-10000) p n := ⟨_, rfl⟩
  rw [← hF, ← hG]
  have loop : ∀ (k : Nat) (x y : Int32) (d7 : Option Value), k ≤ n → clG pe bg pr x p k = F → (if y = -10000 then wrG pe en (-10000) p k else y) = G → m_W S (M_X11_callOf, d, fun w9 g => w9 = some (.int (if wr then G else F)) ∧ g = hh I lg, fun _ _ => False) 20 [some (.ref 143), some (.int (nI p)), some (.int (nI t)), some (.int (bi wr)), some (.int x), some (.int y), some (.int (nI k - nI 1)), d7] [] (hh I lg) 0 0 := by
    intro k
    induction k with
    | zero =>
      intro x y d7 hk h1 h2
      have e1 : x = F := h1
      have e2 : y = G := by
        rw [← h2]
        split
        · next z => exact z
        · rfl
      refine ms_iload dX11_callOf_20 rfl ?_
      refine ms_if_lt (tgt := 107) dX11_callOf_22 (by decide) (fun c22 => ?_) (fun c22 => ?_)
      · refine ms_iload_n dX11_callOf_107 rfl ?_
        refine ms_if_eq (tgt := 116) dX11_callOf_108 (by decide) (fun c108 => ?_) (fun c108 => ?_)
        · rw [bi_0.mp c108]
          refine ms_iload dX11_callOf_116 rfl ?_
          refine ms_iret dX11_callOf_118 rfl rfl ⟨?_, ?_⟩
          · rw [e1]; rfl
          · rfl
        · rw [bi_n0.mp c108]
          refine ms_iload dX11_callOf_111 rfl ?_
          refine ms_goto (tgt := 118) dX11_callOf_113 (by decide) ?_
          refine ms_iret dX11_callOf_118 rfl rfl ⟨?_, ?_⟩
          · rw [e2]; rfl
          · rfl
      · exact absurd (by decide) c22
    | succ k ih =>
      intro x y d7 hk h1 h2
      rw [show nI (k + 1) - nI 1 = nI k from pk_sub (by omega)]
      obtain ⟨w1, w2⟩ := hw k (by omega)
      obtain ⟨b1, b2, b3⟩ := hbg k (by omega)
      have hpe' := hpe k (by omega)
      have back : ∀ (x' y' : Int32) (d7 : Option Value), x' = (if bt (pe k) p then bg k - pr else x) → y' = (if bt (pe k) p = true ∧ y = -10000 then en k else y) → m_W S (M_X11_callOf, d, fun w9 g => w9 = some (.int (if wr then G else F)) ∧ g = hh I lg, fun _ _ => False) 101 [some (.ref 143), some (.int (nI p)), some (.int (nI t)), some (.int (bi wr)), some (.int x'), some (.int y'), some (.int (nI k)), d7] [] (hh I lg) 0 0 := by
        intro x' y' d7 hx hy
        have g1 : clG pe bg pr x' p k = F := by rw [hx, clG_down]; exact h1
        have g2 : (if y' = -10000 then wrG pe en (-10000) p k else y') = G := by
          rw [← h2]
          by_cases z : y = -10000
          · rcases Bool.eq_false_or_eq_true (bt (pe k) p) with q | q
            · have e : y' = en k := hy.trans (if_pos ⟨q, z⟩)
              rw [e, if_neg b3, if_pos z]
              exact (if_pos q).symm
            · have e : y' = y := hy.trans (if_neg (fun r => by rw [q] at r; cases r.1))
              rw [e, if_pos z, if_pos z]
              exact (if_neg (by rw [q]; decide)).symm
          · have e : y' = y := hy.trans (if_neg (fun r => z r.2))
            rw [e, if_neg z, if_neg z]
        refine ms_iinc dX11_callOf_101 rfl (pdec k) ?_
        refine ms_goto (tgt := 20) dX11_callOf_104 (by decide) ?_
        exact ih _ _ _ (by omega) g1 g2
      refine ms_iload dX11_callOf_20 rfl ?_
      refine ms_if_lt (tgt := 107) dX11_callOf_22 (by decide) (fun c22 => ?_) (fun c22 => ?_)
      · exact absurd c22 (nI_pos (by omega))
      · have two : ∀ y' : Int32, y' = (if bt (pe k) p = true ∧ y = -10000 then en k else y) → m_W S (M_X11_callOf, d, fun w9 g => w9 = some (.int (if wr then G else F)) ∧ g = hh I lg, fun _ _ => False) 75 [some (.ref 143), some (.int (nI p)), some (.int (nI t)), some (.int (bi wr)), some (.int x), some (.int y'), some (.int (nI k)), some (.int (bi (bt (pe k) p)))] [] (hh I lg) 0 0 := by
          intro y' hy
          refine ms_iload dX11_callOf_75 rfl ?_
          refine ms_if_eq (tgt := 97) dX11_callOf_77 (by decide) (fun c77 => ?_) (fun c77 => ?_)
          · refine ms_iload dX11_callOf_97 rfl ?_
            refine ms_istore dX11_callOf_99 (Nat.le_of_ble_eq_true rfl) ?_
            refine back _ _ _ ?_ hy
            rw [bi_0.mp c77]; rfl
          · refine ms_aload_n dX11_callOf_80 rfl ?_
            refine q_getr dX11_callOf_81 fX11_101 kd_11_38 (by first | decide | exact lt_sc (by omega) | exact lt_dy (by omega) | exact lt_rw (by omega) | exact lt_wa (by omega) | exact lt_le (by omega)) (by first | rfl | rw [sh_sc (by omega)] | rw [sh_dy (by omega)]) (by first | rfl | exact rf_wa (by omega) | exact rf_le (by omega) | exact rf_rw (by omega)) ?_
            refine ms_iload dX11_callOf_84 rfl ?_
            refine q_iald dX11_callOf_86 (by first | decide | exact lt_sc (by omega) | exact lt_dy (by omega) | exact lt_rw (by omega) | exact lt_wa (by omega) | exact lt_le (by omega)) (by first | rfl | exact sh_rw (by omega) | exact sh_wa (by omega) | exact sh_le (by omega)) (by omega) (by decide) b1 ?_
            refine ms_aload_n dX11_callOf_87 rfl ?_
            refine q_getr dX11_callOf_88 fX11_65 kd_11_25 (by first | decide | exact lt_sc (by omega) | exact lt_dy (by omega) | exact lt_rw (by omega) | exact lt_wa (by omega) | exact lt_le (by omega)) (by first | rfl | rw [sh_sc (by omega)] | rw [sh_dy (by omega)]) (by first | rfl | exact rf_wa (by omega) | exact rf_le (by omega) | exact rf_rw (by omega)) ?_
            refine ms_iload_n dX11_callOf_91 rfl ?_
            refine q_iald dX11_callOf_92 (by first | decide | exact lt_sc (by omega) | exact lt_dy (by omega) | exact lt_rw (by omega) | exact lt_wa (by omega) | exact lt_le (by omega)) (by first | rfl | exact sh_rw (by omega) | exact sh_wa (by omega) | exact sh_le (by omega)) (by omega) (by decide) hpr ?_
            refine ms_isub dX11_callOf_93 ?_
            refine ms_goto (tgt := 99) dX11_callOf_94 (by decide) ?_
            refine ms_istore dX11_callOf_99 (Nat.le_of_ble_eq_true rfl) ?_
            refine back _ _ _ ?_ hy
            rw [bi_n0.mp c77]; rfl
        refine ms_aload_n dX11_callOf_25 rfl ?_
        refine q_getr dX11_callOf_26 fX11_32 kd_11_11 (by first | decide | exact lt_sc (by omega) | exact lt_dy (by omega) | exact lt_rw (by omega) | exact lt_wa (by omega) | exact lt_le (by omega)) (by first | rfl | rw [sh_sc (by omega)] | rw [sh_dy (by omega)]) (by first | rfl | exact rf_wa (by omega) | exact rf_le (by omega) | exact rf_rw (by omega)) ?_
        refine ms_aload_n dX11_callOf_29 rfl ?_
        refine q_getr dX11_callOf_30 fX11_92 kd_11_35 (by first | decide | exact lt_sc (by omega) | exact lt_dy (by omega) | exact lt_rw (by omega) | exact lt_wa (by omega) | exact lt_le (by omega)) (by first | rfl | rw [sh_sc (by omega)] | rw [sh_dy (by omega)]) (by first | rfl | exact rf_wa (by omega) | exact rf_le (by omega) | exact rf_rw (by omega)) ?_
        refine ms_bipush (v := nI 8) dX11_callOf_33 (by decide) ?_
        refine ms_iload_n dX11_callOf_35 rfl ?_
        refine n_imul dX11_callOf_36 ?_
        refine ms_iload dX11_callOf_37 rfl ?_
        refine n_iadd dX11_callOf_39 ?_
        refine q_iald dX11_callOf_40 (by first | decide | exact lt_sc (by omega) | exact lt_dy (by omega) | exact lt_rw (by omega) | exact lt_wa (by omega) | exact lt_le (by omega)) (by first | rfl | exact sh_rw (by omega) | exact sh_wa (by omega) | exact sh_le (by omega)) (by omega) (by decide) w1 ?_
        refine q_iald dX11_callOf_41 (by first | decide | exact lt_sc (by omega) | exact lt_dy (by omega) | exact lt_rw (by omega) | exact lt_wa (by omega) | exact lt_le (by omega)) (by first | rfl | exact sh_rw (by omega) | exact sh_wa (by omega) | exact sh_le (by omega)) (by omega) (by decide) hpe' ?_
        refine ms_iload_n dX11_callOf_42 rfl ?_
        refine qRS2 dX11_callOf_43 kX11_158 (d := d - 1) (by show d - 1 + 1 ≤ d; omega) rfl rfl (Nat.le_of_ble_eq_true rfl) (Nat.le_of_ble_eq_true rfl) (kr_has (by omega)) rfl ?_
        refine ms_istore dX11_callOf_46 (Nat.le_of_ble_eq_true rfl) ?_
        refine ms_iload dX11_callOf_48 rfl ?_
        refine ms_if_eq (tgt := 71) dX11_callOf_50 (by decide) (fun c50 => ?_) (fun c50 => ?_)
        · refine ms_iload dX11_callOf_71 rfl ?_
          refine ms_istore dX11_callOf_73 (Nat.le_of_ble_eq_true rfl) ?_
          refine two y ?_
          rw [if_neg (fun r => by rw [bi_0.mp c50] at r; cases r.1)]
        · refine ms_iload dX11_callOf_53 rfl ?_
          refine ms_sipush (v := -10000) dX11_callOf_55 (by decide) ?_
          refine ms_icmp_ne (tgt := 71) dX11_callOf_58 (by decide) (fun c58 => ?_) (fun c58 => ?_)
          · refine ms_iload dX11_callOf_71 rfl ?_
            refine ms_istore dX11_callOf_73 (Nat.le_of_ble_eq_true rfl) ?_
            refine two y ?_
            rw [if_neg (fun r => c58 r.2)]
          · refine ms_aload_n dX11_callOf_61 rfl ?_
            refine q_getr dX11_callOf_62 fX11_104 kd_11_39 (by first | decide | exact lt_sc (by omega) | exact lt_dy (by omega) | exact lt_rw (by omega) | exact lt_wa (by omega) | exact lt_le (by omega)) (by first | rfl | rw [sh_sc (by omega)] | rw [sh_dy (by omega)]) (by first | rfl | exact rf_wa (by omega) | exact rf_le (by omega) | exact rf_rw (by omega)) ?_
            refine ms_iload dX11_callOf_65 rfl ?_
            refine q_iald dX11_callOf_67 (by first | decide | exact lt_sc (by omega) | exact lt_dy (by omega) | exact lt_rw (by omega) | exact lt_wa (by omega) | exact lt_le (by omega)) (by first | rfl | exact sh_rw (by omega) | exact sh_wa (by omega) | exact sh_le (by omega)) (by omega) (by decide) b2 ?_
            refine ms_goto (tgt := 73) dX11_callOf_68 (by decide) ?_
            refine ms_istore dX11_callOf_73 (Nat.le_of_ble_eq_true rfl) ?_
            refine two _ ?_
            rw [if_pos ⟨bi_n0.mp c50, c58⟩]
  refine ms_sipush (v := -10000) dX11_callOf_0 (by decide) ?_
  refine ms_istore dX11_callOf_3 (Nat.le_of_ble_eq_true rfl) ?_
  refine ms_sipush (v := -10000) dX11_callOf_5 (by decide) ?_
  refine ms_istore dX11_callOf_8 (Nat.le_of_ble_eq_true rfl) ?_
  refine ms_aload_n dX11_callOf_10 rfl ?_
  refine q_getr dX11_callOf_11 fX11_95 kd_11_36 (by first | decide | exact lt_sc (by omega) | exact lt_dy (by omega) | exact lt_rw (by omega) | exact lt_wa (by omega) | exact lt_le (by omega)) (by first | rfl | rw [sh_sc (by omega)] | rw [sh_dy (by omega)]) (by first | rfl | exact rf_wa (by omega) | exact rf_le (by omega) | exact rf_rw (by omega)) ?_
  refine ms_iload_n dX11_callOf_14 rfl ?_
  refine q_iald dX11_callOf_15 (by first | decide | exact lt_sc (by omega) | exact lt_dy (by omega) | exact lt_rw (by omega) | exact lt_wa (by omega) | exact lt_le (by omega)) (by first | rfl | exact sh_rw (by omega) | exact sh_wa (by omega) | exact sh_le (by omega)) (by omega) (by decide) hn ?_
  refine ms_iconst (v := nI 1) dX11_callOf_16 (by decide) ?_
  refine ms_isub dX11_callOf_17 ?_
  refine ms_istore dX11_callOf_18 (Nat.le_of_ble_eq_true rfl) ?_
  exact loop n _ _ _ (Nat.le_refl _) hF.symm (by rw [if_pos rfl]; exact hG.symm)
def ofR (I : m_I) (s t a n : Nat) : m_I := m_up2 (m_up2 (deI I 171 (8 * t + a) (8 * t + n)) 172 t (nI (n - 1))) 159 s (-1)
theorem kr_off0 {S : m_S} {I : m_I} {lg : Int64} {d s : Nat} (hs : s < 20) (hdy : I 159 s = -1) : m_R S M_X11_off d [.ref 143, .int (nI s)] (hh I lg) none (hh I lg) := by
  refine ms_aload_n dX11_off_0 rfl ?_
  refine q_getr dX11_off_1 fX11_56 kd_11_19 (by first | decide | exact lt_sc (by omega) | exact lt_dy (by omega) | exact lt_rw (by omega) | exact lt_wa (by omega) | exact lt_le (by omega)) (by first | rfl | rw [sh_sc (by omega)] | rw [sh_dy (by omega)]) (by first | rfl | exact rf_wa (by omega) | exact rf_le (by omega) | exact rf_rw (by omega)) ?_
  refine ms_iload_n dX11_off_4 rfl ?_
  refine q_iald dX11_off_5 (by first | decide | exact lt_sc (by omega) | exact lt_dy (by omega) | exact lt_rw (by omega) | exact lt_wa (by omega) | exact lt_le (by omega)) (by first | rfl | exact sh_rw (by omega) | exact sh_wa (by omega) | exact sh_le (by omega)) (by omega) (by decide) hdy ?_
  refine ms_istore_n dX11_off_6 (Nat.le_of_ble_eq_true rfl) ?_
  refine ms_iload_n dX11_off_7 rfl ?_
  refine ms_iconst (v := -1) dX11_off_8 (by decide) ?_
  refine ms_icmp_ne (tgt := 13) dX11_off_9 (by decide) (fun c9 => ?_) (fun c9 => ?_)
  · exact absurd rfl c9
  · refine ms_vret dX11_off_12 rfl rfl ⟨rfl, ?_⟩
    · rfl
theorem kr_off {S : m_S} {I : m_I} {lg : Int64} {d t n a s : Nat} {w : Nat → Nat} (hd : 2 ≤ d) (hD : Dr I t n w) (ha : a < n) (hs : w a = s) (h2 : ∀ j, j < a → w j ≠ w a) (hdy : I 159 s = nI t) : m_R S M_X11_off d [.ref 143, .int (nI s)] (hh I lg) none (hh (ofR I s t a n) lg) := by
  obtain ⟨ht, hn, hn2, hw⟩ := id hD
  have hs2 : s < 20 := by rw [← hs]; exact (hw a ha).2
  have hpo := kr_placeOn (S := S) (lg := lg) (d := d - 1) hD ha h2
  rw [hs] at hpo
  have loop : ∀ q k, a ≤ k → k + 1 ≤ n → n - k < q → m_W S (M_X11_off, d, fun w9 g => w9 = none ∧ g = hh (ofR I s t a n) lg, fun _ _ => False) 20 [some (.ref 143), some (.int (nI s)), some (.int (nI t)), some (.int (nI k))] [] (hh (deI I 171 (8 * t + a) (8 * t + k + 1)) lg) 0 0 := by
    intro q
    induction q with
    | zero => intro k _ _ h; omega
    | succ q ih =>
      intro k h1 h2 h3
      have hn0 : deI I 171 (8 * t + a) (8 * t + k + 1) 172 t = nI n := (deI_ne (by decide)).trans hn
      refine ms_iload_n dX11_off_20 rfl ?_
      refine ms_aload_n dX11_off_21 rfl ?_
      refine q_getr dX11_off_22 fX11_95 kd_11_36 (by first | decide | exact lt_sc (by omega) | exact lt_dy (by omega) | exact lt_rw (by omega) | exact lt_wa (by omega) | exact lt_le (by omega)) (by first | rfl | rw [sh_sc (by omega)] | rw [sh_dy (by omega)]) (by first | rfl | exact rf_wa (by omega) | exact rf_le (by omega) | exact rf_rw (by omega)) ?_
      refine ms_iload_n dX11_off_25 rfl ?_
      refine q_iald dX11_off_26 (by first | decide | exact lt_sc (by omega) | exact lt_dy (by omega) | exact lt_rw (by omega) | exact lt_wa (by omega) | exact lt_le (by omega)) (by first | rfl | exact sh_rw (by omega) | exact sh_wa (by omega) | exact sh_le (by omega)) (by omega) (by decide) hn0 ?_
      refine ms_iconst (v := nI 1) dX11_off_27 (by decide) ?_
      refine n_isub dX11_off_28 (by omega) ?_
      refine n_icmp_ge (tgt := 62) dX11_off_29 (by decide) (by omega) (by omega) (fun c29 => ?_) (fun c29 => ?_)
      · obtain rfl : n = k + 1 := by omega
        rw [show 8 * t + k + 1 = 8 * t + (k + 1) by omega]
        have hn1 : deI I 171 (8 * t + a) (8 * t + (k + 1)) 172 t = nI (k + 1) := (deI_ne (by decide)).trans hn
        refine ms_aload_n dX11_off_62 rfl ?_
        refine q_getr dX11_off_63 fX11_95 kd_11_36 (by first | decide | exact lt_sc (by omega) | exact lt_dy (by omega) | exact lt_rw (by omega) | exact lt_wa (by omega) | exact lt_le (by omega)) (by first | rfl | rw [sh_sc (by omega)] | rw [sh_dy (by omega)]) (by first | rfl | exact rf_wa (by omega) | exact rf_le (by omega) | exact rf_rw (by omega)) ?_
        refine ms_iload_n dX11_off_66 rfl ?_
        refine ms_dup2 dX11_off_67 rfl rfl ?_
        refine q_iald dX11_off_68 (by first | decide | exact lt_sc (by omega) | exact lt_dy (by omega) | exact lt_rw (by omega) | exact lt_wa (by omega) | exact lt_le (by omega)) (by first | rfl | exact sh_rw (by omega) | exact sh_wa (by omega) | exact sh_le (by omega)) (by omega) (by decide) hn1 ?_
        refine ms_iconst (v := nI 1) dX11_off_69 (by decide) ?_
        refine n_isub dX11_off_70 (by omega) ?_
        refine q_iast dX11_off_71 (by first | decide | exact lt_sc (by omega) | exact lt_dy (by omega) | exact lt_rw (by omega) | exact lt_wa (by omega) | exact lt_le (by omega)) (by first | rfl | exact sh_rw (by omega) | exact sh_wa (by omega) | exact sh_le (by omega)) (by omega) (by decide) ?_
        refine ms_aload_n dX11_off_72 rfl ?_
        refine q_getr dX11_off_73 fX11_56 kd_11_19 (by first | decide | exact lt_sc (by omega) | exact lt_dy (by omega) | exact lt_rw (by omega) | exact lt_wa (by omega) | exact lt_le (by omega)) (by first | rfl | rw [sh_sc (by omega)] | rw [sh_dy (by omega)]) (by first | rfl | exact rf_wa (by omega) | exact rf_le (by omega) | exact rf_rw (by omega)) ?_
        refine ms_iload_n dX11_off_76 rfl ?_
        refine ms_iconst (v := -1) dX11_off_77 (by decide) ?_
        refine q_iast dX11_off_78 (by first | decide | exact lt_sc (by omega) | exact lt_dy (by omega) | exact lt_rw (by omega) | exact lt_wa (by omega) | exact lt_le (by omega)) (by first | rfl | exact sh_rw (by omega) | exact sh_wa (by omega) | exact sh_le (by omega)) (by omega) (by decide) ?_
        refine ms_vret dX11_off_79 rfl rfl ⟨rfl, ?_⟩
        · rfl
      · have e : m_up2 (deI I 171 (8 * t + a) (8 * t + k + 1)) 171 (8 * t + k) (deI I 171 (8 * t + a) (8 * t + k + 1) 171 (8 * t + k + 1)) = deI I 171 (8 * t + a) (8 * t + (k + 1) + 1) := deI_step I (t := 171) (j := 8 * t + a) (n := 8 * t + k + 1) (by omega)
        have h9 := ih (k + 1) (by omega) (by omega) (by omega)
        rw [← e] at h9
        refine ms_aload_n dX11_off_32 rfl ?_
        refine q_getr dX11_off_33 fX11_92 kd_11_35 (by first | decide | exact lt_sc (by omega) | exact lt_dy (by omega) | exact lt_rw (by omega) | exact lt_wa (by omega) | exact lt_le (by omega)) (by first | rfl | rw [sh_sc (by omega)] | rw [sh_dy (by omega)]) (by first | rfl | exact rf_wa (by omega) | exact rf_le (by omega) | exact rf_rw (by omega)) ?_
        refine ms_bipush (v := nI 8) dX11_off_36 (by decide) ?_
        refine ms_iload_n dX11_off_38 rfl ?_
        refine n_imul dX11_off_39 ?_
        refine ms_iload_n dX11_off_40 rfl ?_
        refine n_iadd dX11_off_41 ?_
        refine ms_aload_n dX11_off_42 rfl ?_
        refine q_getr dX11_off_43 fX11_92 kd_11_35 (by first | decide | exact lt_sc (by omega) | exact lt_dy (by omega) | exact lt_rw (by omega) | exact lt_wa (by omega) | exact lt_le (by omega)) (by first | rfl | rw [sh_sc (by omega)] | rw [sh_dy (by omega)]) (by first | rfl | exact rf_wa (by omega) | exact rf_le (by omega) | exact rf_rw (by omega)) ?_
        refine ms_bipush (v := nI 8) dX11_off_46 (by decide) ?_
        refine ms_iload_n dX11_off_48 rfl ?_
        refine n_imul dX11_off_49 ?_
        refine ms_iload_n dX11_off_50 rfl ?_
        refine n_iadd dX11_off_51 ?_
        refine ms_iconst (v := nI 1) dX11_off_52 (by decide) ?_
        refine n_iadd dX11_off_53 ?_
        refine q_iald dX11_off_54 (by first | decide | exact lt_sc (by omega) | exact lt_dy (by omega) | exact lt_rw (by omega) | exact lt_wa (by omega) | exact lt_le (by omega)) (by first | rfl | exact sh_rw (by omega) | exact sh_wa (by omega) | exact sh_le (by omega)) (by omega) (by decide) rfl ?_
        refine q_iast dX11_off_55 (by first | decide | exact lt_sc (by omega) | exact lt_dy (by omega) | exact lt_rw (by omega) | exact lt_wa (by omega) | exact lt_le (by omega)) (by first | rfl | exact sh_rw (by omega) | exact sh_wa (by omega) | exact sh_le (by omega)) (by omega) (by decide) ?_
        refine n_iinc dX11_off_56 rfl ?_
        refine ms_goto (tgt := 20) dX11_off_59 (by decide) ?_
        exact h9
  refine ms_aload_n dX11_off_0 rfl ?_
  refine q_getr dX11_off_1 fX11_56 kd_11_19 (by first | decide | exact lt_sc (by omega) | exact lt_dy (by omega) | exact lt_rw (by omega) | exact lt_wa (by omega) | exact lt_le (by omega)) (by first | rfl | rw [sh_sc (by omega)] | rw [sh_dy (by omega)]) (by first | rfl | exact rf_wa (by omega) | exact rf_le (by omega) | exact rf_rw (by omega)) ?_
  refine ms_iload_n dX11_off_4 rfl ?_
  refine q_iald dX11_off_5 (by first | decide | exact lt_sc (by omega) | exact lt_dy (by omega) | exact lt_rw (by omega) | exact lt_wa (by omega) | exact lt_le (by omega)) (by first | rfl | exact sh_rw (by omega) | exact sh_wa (by omega) | exact sh_le (by omega)) (by omega) (by decide) hdy ?_
  refine ms_istore_n dX11_off_6 (Nat.le_of_ble_eq_true rfl) ?_
  refine ms_iload_n dX11_off_7 rfl ?_
  refine ms_iconst (v := -1) dX11_off_8 (by decide) ?_
  refine ms_icmp_ne (tgt := 13) dX11_off_9 (by decide) (fun c9 => ?_) (fun c9 => ?_)
  · refine ms_aload_n dX11_off_13 rfl ?_
    refine ms_iload_n dX11_off_14 rfl ?_
    refine ms_iload_n dX11_off_15 rfl ?_
    refine qRV2 dX11_off_16 kX11_181 (by show _ < 178; first | decide | exact lt_sc (by omega) | exact lt_dy (by omega)) (by show (sh0 _).1 = _; first | rfl | rw [sh_sc (by omega)] | rw [sh_dy (by omega)]) (d := d - 1) (by show d - 1 + 1 ≤ d; omega) rfl rfl (Nat.le_of_ble_eq_true rfl) (Nat.le_of_ble_eq_true rfl) (hpo) rfl ?_
    refine ms_istore_n dX11_off_19 (Nat.le_of_ble_eq_true rfl) ?_
    have h9 := loop (n + 1) a (Nat.le_refl _) (by omega) (by omega)
    rw [deI_0] at h9
    exact h9
  · have h0 := nI_pos (n := t) (by omega)
    rw [c9] at h0
    exact absurd (by decide) h0

