-- NAME refpay
/-! the reference: what is paid -/
def ruG (f : Nat → Bool) : Nat → Int32 × Int32
  | 0 => (nI 0, -1)
  | k + 1 => if f k then ((ruG f k).1 + (if (ruG f k).2 = -1 ∨ nI 10 < nI k - (ruG f k).2 then nI 1 else nI k - (ruG f k).2), nI k) else ruG f k
theorem kr_run {S : m_S} {I : m_I} {lg : Int64} {d : Nat} {x : Int32} (hd : 2 ≤ d) : m_R S M_X11_run d [.int x] (hh I lg) (some (.int (ruG (bt x) 30).1)) (hh I lg) := by
  have loop : ∀ (q k : Nat), k ≤ 30 → 30 - k < q → m_W S (M_X11_run, d, fun w9 g9 => w9 = some (.int (ruG (bt x) 30).1) ∧ g9 = hh (I) lg, fun _ _ => False) 6 [some (.int x), some (.int (ruG (bt x) k).1), some (.int (ruG (bt x) k).2), some (.int (nI k))] [] (hh (I) lg) 0 0 := by
    intro q
    induction q with
    | zero => intro k  _ h; omega
    | succ q ih =>
      intro k  hk hq
      refine ms_iload_n dX11_run_6 rfl ?_
      refine ms_bipush (v := nI 30) dX11_run_7 (by decide) ?_
      refine n_icmp_ge (tgt := 51) dX11_run_9 (by decide) (by omega) (by omega) (fun c9 => ?_) (fun c9 => ?_)
      · obtain rfl : k = 30 := by omega
        refine ms_iload_n dX11_run_51 rfl ?_
        refine ms_iret dX11_run_52 rfl rfl ⟨?_, ?_⟩
        · rfl
        · rfl
      · have h9 := ih (k + 1) (by omega) (by omega)
        refine ms_iload_n dX11_run_12 rfl ?_
        refine ms_iload_n dX11_run_13 rfl ?_
        refine qRS2 dX11_run_14 kX11_158 (d := d - 1) (by show d - 1 + 1 ≤ d; omega) rfl rfl (Nat.le_of_ble_eq_true rfl) (Nat.le_of_ble_eq_true rfl) (kr_has (by omega)) rfl ?_
        refine ms_if_eq (tgt := 45) dX11_run_17 (by decide) (fun c17 => ?_) (fun c17 => ?_)
        · have e : ruG (bt x) (k + 1) = ruG (bt x) k := if_neg (by rw [bi_0.mp c17]; decide)
          rw [e] at h9
          refine n_iinc dX11_run_45 rfl ?_
          refine ms_goto (tgt := 6) dX11_run_48 (by decide) ?_
          exact h9
        · have e : ruG (bt x) (k + 1) = ((ruG (bt x) k).1 + (if (ruG (bt x) k).2 = -1 ∨ nI 10 < nI k - (ruG (bt x) k).2 then nI 1 else nI k - (ruG (bt x) k).2), nI k) := if_pos (bi_n0.mp c17)
          rw [e] at h9
          refine ms_iload_n dX11_run_20 rfl ?_
          refine ms_iload_n dX11_run_21 rfl ?_
          refine ms_iconst (v := -1) dX11_run_22 (by decide) ?_
          refine ms_icmp_eq (tgt := 34) dX11_run_23 (by decide) (fun c23 => ?_) (fun c23 => ?_)
          · rw [if_pos (Or.inl c23)] at h9
            refine ms_iconst (v := nI 1) dX11_run_34 (by decide) ?_
            refine ms_goto (tgt := 41) dX11_run_35 (by decide) ?_
            refine ms_iadd dX11_run_41 ?_
            refine ms_istore_n dX11_run_42 (Nat.le_of_ble_eq_true rfl) ?_
            refine ms_iload_n dX11_run_43 rfl ?_
            refine ms_istore_n dX11_run_44 (Nat.le_of_ble_eq_true rfl) ?_
            refine n_iinc dX11_run_45 rfl ?_
            refine ms_goto (tgt := 6) dX11_run_48 (by decide) ?_
            exact h9
          · refine ms_iload_n dX11_run_26 rfl ?_
            refine ms_iload_n dX11_run_27 rfl ?_
            refine ms_isub dX11_run_28 ?_
            refine ms_bipush (v := nI 10) dX11_run_29 (by decide) ?_
            refine ms_icmp_le (tgt := 38) dX11_run_31 (by decide) (fun c31 => ?_) (fun c31 => ?_)
            · rw [if_neg (fun z => z.elim c23 (Int32.not_lt.mpr c31))] at h9
              refine ms_iload_n dX11_run_38 rfl ?_
              refine ms_iload_n dX11_run_39 rfl ?_
              refine ms_isub dX11_run_40 ?_
              refine ms_iadd dX11_run_41 ?_
              refine ms_istore_n dX11_run_42 (Nat.le_of_ble_eq_true rfl) ?_
              refine ms_iload_n dX11_run_43 rfl ?_
              refine ms_istore_n dX11_run_44 (Nat.le_of_ble_eq_true rfl) ?_
              refine n_iinc dX11_run_45 rfl ?_
              refine ms_goto (tgt := 6) dX11_run_48 (by decide) ?_
              exact h9
            · rw [if_pos (Or.inr (Int32.not_le.mp c31))] at h9
              refine ms_iconst (v := nI 1) dX11_run_34 (by decide) ?_
              refine ms_goto (tgt := 41) dX11_run_35 (by decide) ?_
              refine ms_iadd dX11_run_41 ?_
              refine ms_istore_n dX11_run_42 (Nat.le_of_ble_eq_true rfl) ?_
              refine ms_iload_n dX11_run_43 rfl ?_
              refine ms_istore_n dX11_run_44 (Nat.le_of_ble_eq_true rfl) ?_
              refine n_iinc dX11_run_45 rfl ?_
              refine ms_goto (tgt := 6) dX11_run_48 (by decide) ?_
              exact h9
  refine ms_iconst (v := nI 0) dX11_run_0 (by decide) ?_
  refine ms_istore_n dX11_run_1 (Nat.le_of_ble_eq_true rfl) ?_
  refine ms_iconst (v := -1) dX11_run_2 (by decide) ?_
  refine ms_istore_n dX11_run_3 (Nat.le_of_ble_eq_true rfl) ?_
  refine ms_iconst (v := nI 0) dX11_run_4 (by decide) ?_
  refine ms_istore_n dX11_run_5 (Nat.le_of_ble_eq_true rfl) ?_
  exact loop 31 0 (by omega) (by omega)
/-- two heaps that differ in the reference's clock alone -/
def smR (I J : m_I) : Prop := ∀ a b, a ≠ 174 ∧ a ≠ 175 → J a b = I a b
theorem smR_id (I : m_I) : smR I I := fun _ _ _ => rfl
theorem smR_rr {I J : m_I} (h : smR I J) (bg en : Nat → Int32) (k : Nat) : smR I (rrM J bg en k) := fun a b z => (rrM_ne z).trans (h a b z)
theorem smR_Dr {I J : m_I} (h : smR I J) {t n : Nat} {w : Nat → Nat} (hD : Dr I t n w) : Dr J t n w := ⟨hD.1, (h _ _ (by decide)).trans hD.2.1, hD.2.2.1, fun j hj => ⟨(h _ _ (by decide)).trans (hD.2.2.2 j hj).1, (hD.2.2.2 j hj).2⟩⟩
def bgR (I : m_I) (t : Nat) (w pl : Nat → Nat) : Nat → Int32 := bgG (I 168 t) (laR I w) (moR I pl)
def enR (I : m_I) (t : Nat) (w pl : Nat → Nat) : Nat → Int32 := enG (I 168 t) (laR I w) (moR I pl)
theorem smR_la {I J : m_I} (h : smR I J) (w : Nat → Nat) : laR J w = laR I w := by
  funext k
  unfold laR eiR
  rw [h _ _ (by decide), h _ _ (by decide), h _ _ (by decide), h _ _ (by decide), h _ _ (by decide)]
theorem smR_mo {I J : m_I} (h : smR I J) (pl : Nat → Nat) : moR J pl = moR I pl := by
  funext k
  unfold moR
  rw [h _ _ (by decide)]
theorem kr_clockS {S : m_S} {I J : m_I} {lg : Int64} {d t n : Nat} {w pl : Nat → Nat} (hd : 2 ≤ d) (hD : Dr I t n w) (hp : ∀ j, j < n → I 147 (w j) = nI (pl j) ∧ pl j < 6) (h : smR I J) : m_R S M_X11_clock d [.ref 143, .int (nI t)] (hh J lg) none (hh (rrM J (bgR I t w pl) (enR I t w pl) n) lg) := by
  have e := kr_clock (S := S) (I := J) (lg := lg) hd (smR_Dr h hD) (pl := pl) (fun j hj => ⟨(h _ _ (by decide)).trans (hp j hj).1, (hp j hj).2⟩)
  rw [smR_la h, smR_mo h, h _ _ (by decide)] at e
  exact e
/-- who is called when on a day, by its clock -/
def frD (I : m_I) (t n : Nat) (w pl : Nat → Nat) (p : Nat) : Int32 := clG (fun j => I 151 (w j)) (bgR I t w pl) (I 162 p) (-10000) p n
def toD (I : m_I) (t n : Nat) (w pl : Nat → Nat) (p : Nat) : Int32 := wrG (fun j => I 151 (w j)) (enR I t w pl) (-10000) p n
theorem kr_callS {S : m_S} {I J : m_I} {lg : Int64} {d t n p : Nat} {w pl : Nat → Nat} (wr : Bool) (hd : 2 ≤ d) (hD : Dr I t n w) (hp : p < 8) (h : smR I J) (hen : ∀ j, j < n → enR I t w pl j ≠ -10000) : m_R S M_X11_callOf d [.ref 143, .int (nI p), .int (nI t), .int (bi wr)] (hh (rrM J (bgR I t w pl) (enR I t w pl) n) lg) (some (.int (if wr then toD I t n w pl p else frD I t n w pl p))) (hh (rrM J (bgR I t w pl) (enR I t w pl) n) lg) := by
  have hK := smR_rr h (bgR I t w pl) (enR I t w pl) n
  refine kr_callOf (pe := fun j => I 151 (w j)) (bg := bgR I t w pl) (en := enR I t w pl) (pr := I 162 p) wr hd (smR_Dr hK hD) hp (fun j _ => hK _ _ (by decide)) (fun j hj => ⟨?_, ?_, hen j hj⟩) (hK _ _ (by decide))
  · exact if_pos ⟨rfl, hj⟩
  · exact (if_neg (by omega)).trans (if_pos ⟨rfl, hj⟩)
def bsG (rate : Int32) (f s5 : Nat → Bool) (fr to : Nat → Int32) : Nat → Int32 × Int32
  | 0 => (nI 0, -10000)
  | k + 1 => if f k then ((bsG rate f s5 fr to k).1 + (hoR (to k - fr k - nI 600) + hoR (to k - nI 1320)) * (rate / nI 10) + (if 0 < k ∧ f (k - 1) = true ∧ fr k + nI 1440 - (bsG rate f s5 fr to k).2 < nI 660 then rate / nI 4 else nI 0) + (if 4 < k ∧ s5 k = true then rate / nI 2 else nI 0), to k) else bsG rate f s5 fr to k
def bsJ (I : m_I) (f : Nat → Bool) (n : Nat → Nat) (w pl : Nat → Nat → Nat) : Nat → m_I
  | 0 => I
  | k + 1 => if f k then rrM (bsJ I f n w pl k) (bgR I k (w k) (pl k)) (enR I k (w k) (pl k)) (n k) else bsJ I f n w pl k
theorem smR_bs {I : m_I} {f : Nat → Bool} {n : Nat → Nat} {w pl : Nat → Nat → Nat} : ∀ k, smR I (bsJ I f n w pl k) := by
  intro k
  induction k with
  | zero => exact smR_id I
  | succ k ih =>
    unfold bsJ
    split
    · exact smR_rr ih _ _ _
    · exact ih
def s5R (x : Int32) (k : Nat) : Bool := decide ((x >>> (nI (k - 5) &&& 31)) &&& nI 31 = nI 31)
def bsS (I : m_I) (x : Int32) (n : Nat → Nat) (w pl : Nat → Nat → Nat) (p : Nat) : Nat → Int32 × Int32 := bsG (I 161 p) (bt x) (s5R x) (fun k => frD I k (n k) (w k) (pl k) p) (fun k => toD I k (n k) (w k) (pl k) p)
theorem kr_besides {S : m_S} {I : m_I} {lg : Int64} {d p : Nat} {x : Int32} {n : Nat → Nat} {w pl : Nat → Nat → Nat} (hd : 3 ≤ d) (hD : ∀ t, t < 30 → Dr I t (n t) (w t)) (hpl : ∀ t j, t < 30 → j < n t → I 147 (w t j) = nI (pl t j) ∧ pl t j < 6) (hp : p < 8) (hen : ∀ t j, t < 30 → j < n t → enR I t (w t) (pl t) j ≠ -10000) : m_R S M_X11_besides d [.ref 143, .int (nI p), .int x] (hh I lg) (some (.int (bsS I x n w pl p 30).1)) (hh (bsJ I (bt x) n w pl 30) lg) := by
  have h10 : ¬ (nI 10 : Int32) = 0 := by decide
  have h4 : ¬ (nI 4 : Int32) = 0 := by decide
  have h2 : ¬ (nI 2 : Int32) = 0 := by decide
  obtain ⟨K, hK⟩ : ∃ K, K = bsJ I (bt x) n w pl := ⟨_, rfl⟩
  have hsm : ∀ k, smR I (K k) := fun k => by rw [hK]; exact smR_bs k
  have hKy : ∀ k, bt x k = true → K (k + 1) = rrM (K k) (bgR I k (w k) (pl k)) (enR I k (w k) (pl k)) (n k) := fun k h => by rw [hK]; exact if_pos h
  have hKn : ∀ k, bt x k = false → K (k + 1) = K k := fun k h => by rw [hK]; exact if_neg (by rw [h]; decide)
  have hK0 : K 0 = I := by rw [hK]; rfl
  rw [← hK]
  obtain ⟨fr, hfr⟩ : ∃ z, z = fun k => frD I k (n k) (w k) (pl k) p := ⟨_, rfl⟩
  obtain ⟨to, hto⟩ : ∃ z, z = fun k => toD I k (n k) (w k) (pl k) p := ⟨_, rfl⟩
  obtain ⟨r, hr⟩ : ∃ r, r = bsS I x n w pl p := ⟨_, rfl⟩
  have hr0 : r = bsG (I 161 p) (bt x) (s5R x) fr to := by rw [hr, hfr, hto]; rfl
  rw [← hr]
  have hry : ∀ k, bt x k = true → r (k + 1) = ((r k).1 + (hoR (to k - fr k - nI 600) + hoR (to k - nI 1320)) * (I 161 p / nI 10) + (if 0 < k ∧ bt x (k - 1) = true ∧ fr k + nI 1440 - (r k).2 < nI 660 then I 161 p / nI 4 else nI 0) + (if 4 < k ∧ s5R x k = true then I 161 p / nI 2 else nI 0), to k) := fun k h => by rw [hr0]; exact if_pos h
  have hrn : ∀ k, bt x k = false → r (k + 1) = r k := fun k h => by rw [hr0]; exact if_neg (by rw [h]; decide)
  have hr00 : r 0 = (nI 0, -10000) := by rw [hr0]; rfl
  have loop : ∀ (q k : Nat) (d6 d7 : Option Value), k ≤ 30 → 30 - k < q → m_W S (M_X11_besides, d, fun w9 g => w9 = some (.int (r 30).1) ∧ g = hh (K 30) lg, fun _ _ => False) 10 [some (.ref 143), some (.int (nI p)), some (.int x), some (.int (r k).1), some (.int (r k).2), some (.int (nI k)), d6, d7] [] (hh (K k) lg) 0 0 := by
    intro q
    induction q with
    | zero => intro k _ _ _ h; omega
    | succ q ih =>
      intro k d6 d7 hk hq
      refine ms_iload dX11_besides_10 rfl ?_
      refine ms_bipush (v := nI 30) dX11_besides_12 (by decide) ?_
      refine n_icmp_ge (tgt := 178) dX11_besides_14 (by decide) (by omega) (by omega) (fun c14 => ?_) (fun c14 => ?_)
      · obtain rfl : k = 30 := by omega
        refine ms_iload_n dX11_besides_178 rfl ?_
        refine ms_iret dX11_besides_179 rfl rfl ⟨?_, ?_⟩
        · rfl
        · rfl
      · have hk30 : k < 30 := by omega
        have h9 := fun d6 d7 => ih (k + 1) d6 d7 (by omega) (by omega)
        refine ms_iload_n dX11_besides_17 rfl ?_
        refine ms_iload dX11_besides_18 rfl ?_
        refine qRS2 dX11_besides_20 kX11_158 (d := d - 1) (by show d - 1 + 1 ≤ d; omega) rfl rfl (Nat.le_of_ble_eq_true rfl) (Nat.le_of_ble_eq_true rfl) (kr_has (by omega)) rfl ?_
        refine ms_if_eq (tgt := 172) dX11_besides_23 (by decide) (fun c23 => ?_) (fun c23 => ?_)
        · rw [hrn k (bi_0.mp c23), hKn k (bi_0.mp c23)] at h9
          refine n_iinc dX11_besides_172 rfl ?_
          refine ms_goto (tgt := 10) dX11_besides_175 (by decide) ?_
          exact h9 _ _
        · have hf := bi_n0.mp c23
          rw [hry k hf, hKy k hf] at h9
          have hck := kr_clockS (S := S) (lg := lg) (d := d - 1) (by omega) (hD k hk30) (hpl k · hk30) (hsm k)
          have hca := fun wr => kr_callS (S := S) (lg := lg) (d := d - 1) (p := p) (pl := pl k) wr (by omega) (hD k hk30) hp (hsm k) (hen k · hk30)
          obtain ⟨J, hJ⟩ : ∃ J, J = rrM (K k) (bgR I k (w k) (pl k)) (enR I k (w k) (pl k)) (n k) := ⟨_, rfl⟩
          have hsJ : smR I J := by rw [hJ]; exact smR_rr (hsm k) _ _ _
          rw [← hJ] at hck h9
          rw [← hJ] at hca
          have hca0 : m_R S M_X11_callOf (d - 1) [.ref 143, .int (nI p), .int (nI k), .int (bi false)] (hh J lg) (some (.int (fr k))) (hh J lg) := by rw [hfr]; exact hca false
          have hca1 : m_R S M_X11_callOf (d - 1) [.ref 143, .int (nI p), .int (nI k), .int (bi true)] (hh J lg) (some (.int (to k))) (hh J lg) := by rw [hto]; exact hca true
          have hra : J 161 p = I 161 p := hsJ _ _ (by decide)
          obtain ⟨s1, hs1⟩ : ∃ z, z = (r k).1 + (hoR (to k - fr k - nI 600) + hoR (to k - nI 1320)) * (I 161 p / nI 10) := ⟨_, rfl⟩
          rw [← hs1] at h9
          obtain ⟨s2, hs2⟩ : ∃ z, z = s1 + (if 0 < k ∧ bt x (k - 1) = true ∧ fr k + nI 1440 - (r k).2 < nI 660 then I 161 p / nI 4 else nI 0) := ⟨_, rfl⟩
          rw [← hs2] at h9
          obtain ⟨s3, hs3⟩ : ∃ z, z = s2 + (if 4 < k ∧ s5R x k = true then I 161 p / nI 2 else nI 0) := ⟨_, rfl⟩
          rw [← hs3] at h9
          have T3 : ∀ v, v = s3 → m_W S (M_X11_besides, d, fun w9 g => w9 = some (.int (r 30).1) ∧ g = hh (K 30) lg, fun _ _ => False) 167 [some (.ref 143), some (.int (nI p)), some (.int x), some (.int s2), some (.int (r k).2), some (.int (nI k)), some (.int (fr k)), some (.int (to k))] [.int v] (hh J lg) 0 0 := by
            intro v hv
            subst hv
            refine ms_istore_n dX11_besides_167 (Nat.le_of_ble_eq_true rfl) ?_
            refine ms_iload dX11_besides_168 rfl ?_
            refine ms_istore dX11_besides_170 (Nat.le_of_ble_eq_true rfl) ?_
            refine n_iinc dX11_besides_172 rfl ?_
            refine ms_goto (tgt := 10) dX11_besides_175 (by decide) ?_
            exact h9 _ _
          have T2 : ∀ v, v = s2 → m_W S (M_X11_besides, d, fun w9 g => w9 = some (.int (r 30).1) ∧ g = hh (K 30) lg, fun _ _ => False) 132 [some (.ref 143), some (.int (nI p)), some (.int x), some (.int s1), some (.int (r k).2), some (.int (nI k)), some (.int (fr k)), some (.int (to k))] [.int v] (hh J lg) 0 0 := by
            intro v hv
            subst hv
            refine ms_istore_n dX11_besides_132 (Nat.le_of_ble_eq_true rfl) ?_
            refine ms_iload_n dX11_besides_133 rfl ?_
            refine ms_iload dX11_besides_134 rfl ?_
            refine ms_iconst (v := nI 4) dX11_besides_136 (by decide) ?_
            refine n_icmp_le (tgt := 165) dX11_besides_137 (by decide) (by omega) (by omega) (fun c137 => ?_) (fun c137 => ?_)
            · refine ms_iconst (v := nI 0) dX11_besides_165 (by decide) ?_
              refine ms_iadd dX11_besides_166 ?_
              refine T3 _ ?_
              rw [hs3, if_neg (fun z => by omega)]
            · refine ms_iload_n dX11_besides_140 rfl ?_
              refine ms_iload dX11_besides_141 rfl ?_
              refine ms_iconst (v := nI 5) dX11_besides_143 (by decide) ?_
              refine n_isub dX11_besides_144 (by omega) ?_
              refine ms_ishr dX11_besides_145 ?_
              refine ms_bipush (v := nI 31) dX11_besides_146 (by decide) ?_
              refine ms_iand dX11_besides_148 ?_
              refine ms_bipush (v := nI 31) dX11_besides_149 (by decide) ?_
              refine ms_icmp_ne (tgt := 165) dX11_besides_151 (by decide) (fun c151 => ?_) (fun c151 => ?_)
              · have e : s5R x k = false := decide_eq_false c151
                refine ms_iconst (v := nI 0) dX11_besides_165 (by decide) ?_
                refine ms_iadd dX11_besides_166 ?_
                refine T3 _ ?_
                rw [hs3, e, if_neg (fun z => by cases z.2)]
              · have e : s5R x k = true := decide_eq_true c151
                refine ms_aload_n dX11_besides_154 rfl ?_
                refine q_getr dX11_besides_155 fX11_62 kd_11_24 (by first | decide | exact lt_sc (by omega) | exact lt_dy (by omega) | exact lt_rw (by omega) | exact lt_wa (by omega) | exact lt_le (by omega)) (by first | rfl | rw [sh_sc (by omega)] | rw [sh_dy (by omega)]) (by first | rfl | exact rf_wa (by omega) | exact rf_le (by omega) | exact rf_rw (by omega)) ?_
                refine ms_iload_n dX11_besides_158 rfl ?_
                refine q_iald dX11_besides_159 (by first | decide | exact lt_sc (by omega) | exact lt_dy (by omega) | exact lt_rw (by omega) | exact lt_wa (by omega) | exact lt_le (by omega)) (by first | rfl | exact sh_rw (by omega) | exact sh_wa (by omega) | exact sh_le (by omega)) (by omega) (by decide) (by first | assumption | ((repeat ((with_reducible apply m_up2_tr); · first | omega | (intro z; (try unfold scI at z); (try unfold dyI at z); (try unfold rwI at z); (try unfold waI at z); (try unfold leI at z); omega))); first | assumption | exact m_up2_eq | rfl)) ?_
                refine ms_iconst (v := nI 2) dX11_besides_160 (by decide) ?_
                refine ms_idiv dX11_besides_161 (by first | decide | assumption) ?_
                refine ms_goto (tgt := 166) dX11_besides_162 (by decide) ?_
                refine ms_iadd dX11_besides_166 ?_
                refine T3 _ ?_
                rw [hs3, if_pos ⟨c137, e⟩]
          refine ms_aload_n dX11_besides_26 rfl ?_
          refine ms_iload dX11_besides_27 rfl ?_
          refine qRV1 dX11_besides_29 kX11_199 (by show _ < 178; first | decide | exact lt_sc (by omega) | exact lt_dy (by omega)) (by show (sh0 _).1 = _; first | rfl | rw [sh_sc (by omega)] | rw [sh_dy (by omega)]) (d := d - 1) (by show d - 1 + 1 ≤ d; omega) rfl (Nat.le_of_ble_eq_true rfl) (Nat.le_of_ble_eq_true rfl) (hck) rfl ?_
          refine ms_aload_n dX11_besides_32 rfl ?_
          refine ms_iload_n dX11_besides_33 rfl ?_
          refine ms_iload dX11_besides_34 rfl ?_
          refine ms_iconst (v := nI 0) dX11_besides_36 (by decide) ?_
          refine qRV3 dX11_besides_37 kX11_185 (by show _ < 178; first | decide | exact lt_sc (by omega) | exact lt_dy (by omega)) (by show (sh0 _).1 = _; first | rfl | rw [sh_sc (by omega)] | rw [sh_dy (by omega)]) (d := d - 1) (by show d - 1 + 1 ≤ d; omega) rfl rfl rfl (Nat.le_of_ble_eq_true rfl) (Nat.le_of_ble_eq_true rfl) (hca0) rfl ?_
          refine ms_istore dX11_besides_40 (Nat.le_of_ble_eq_true rfl) ?_
          refine ms_aload_n dX11_besides_42 rfl ?_
          refine ms_iload_n dX11_besides_43 rfl ?_
          refine ms_iload dX11_besides_44 rfl ?_
          refine ms_iconst (v := nI 1) dX11_besides_46 (by decide) ?_
          refine qRV3 dX11_besides_47 kX11_185 (by show _ < 178; first | decide | exact lt_sc (by omega) | exact lt_dy (by omega)) (by show (sh0 _).1 = _; first | rfl | rw [sh_sc (by omega)] | rw [sh_dy (by omega)]) (d := d - 1) (by show d - 1 + 1 ≤ d; omega) rfl rfl rfl (Nat.le_of_ble_eq_true rfl) (Nat.le_of_ble_eq_true rfl) (hca1) rfl ?_
          refine ms_istore dX11_besides_50 (Nat.le_of_ble_eq_true rfl) ?_
          refine ms_iload_n dX11_besides_52 rfl ?_
          refine ms_iload dX11_besides_53 rfl ?_
          refine ms_iload dX11_besides_55 rfl ?_
          refine ms_isub dX11_besides_57 ?_
          refine ms_sipush (v := nI 600) dX11_besides_58 (by decide) ?_
          refine ms_isub dX11_besides_61 ?_
          refine qRS1 dX11_besides_62 kX11_223 (d := d - 1) (by show d - 1 + 1 ≤ d; omega) rfl (Nat.le_of_ble_eq_true rfl) (Nat.le_of_ble_eq_true rfl) (kr_hours) rfl ?_
          refine ms_iload dX11_besides_65 rfl ?_
          refine ms_sipush (v := nI 1320) dX11_besides_67 (by decide) ?_
          refine ms_isub dX11_besides_70 ?_
          refine qRS1 dX11_besides_71 kX11_223 (d := d - 1) (by show d - 1 + 1 ≤ d; omega) rfl (Nat.le_of_ble_eq_true rfl) (Nat.le_of_ble_eq_true rfl) (kr_hours) rfl ?_
          refine ms_iadd dX11_besides_74 ?_
          refine ms_aload_n dX11_besides_75 rfl ?_
          refine q_getr dX11_besides_76 fX11_62 kd_11_24 (by first | decide | exact lt_sc (by omega) | exact lt_dy (by omega) | exact lt_rw (by omega) | exact lt_wa (by omega) | exact lt_le (by omega)) (by first | rfl | rw [sh_sc (by omega)] | rw [sh_dy (by omega)]) (by first | rfl | exact rf_wa (by omega) | exact rf_le (by omega) | exact rf_rw (by omega)) ?_
          refine ms_iload_n dX11_besides_79 rfl ?_
          refine q_iald dX11_besides_80 (by first | decide | exact lt_sc (by omega) | exact lt_dy (by omega) | exact lt_rw (by omega) | exact lt_wa (by omega) | exact lt_le (by omega)) (by first | rfl | exact sh_rw (by omega) | exact sh_wa (by omega) | exact sh_le (by omega)) (by omega) (by decide) hra ?_
          refine ms_bipush (v := nI 10) dX11_besides_81 (by decide) ?_
          refine ms_idiv dX11_besides_83 (by first | decide | assumption) ?_
          refine ms_imul dX11_besides_84 ?_
          refine ms_iadd dX11_besides_85 ?_
          refine ms_istore_n dX11_besides_86 (Nat.le_of_ble_eq_true rfl) ?_
          rw [← hs1]
          refine ms_iload_n dX11_besides_87 rfl ?_
          refine ms_iload dX11_besides_88 rfl ?_
          refine ms_if_le (tgt := 130) dX11_besides_90 (by decide) (fun c90 => ?_) (fun c90 => ?_)
          · have hk0 : ¬ 0 < k := fun z => nI_nle z (by omega) c90
            refine ms_iconst (v := nI 0) dX11_besides_130 (by decide) ?_
            refine ms_iadd dX11_besides_131 ?_
            refine T2 _ ?_
            rw [hs2, if_neg (fun z => hk0 z.1)]
          · have hk0 : 0 < k := by
              rcases Nat.eq_zero_or_pos k with z | z
              · rw [z] at c90; exact absurd (by decide) c90
              · exact z
            refine ms_iload_n dX11_besides_93 rfl ?_
            refine ms_iload dX11_besides_94 rfl ?_
            refine ms_iconst (v := nI 1) dX11_besides_96 (by decide) ?_
            refine n_isub dX11_besides_97 (by omega) ?_
            refine qRS2 dX11_besides_98 kX11_158 (d := d - 1) (by show d - 1 + 1 ≤ d; omega) rfl rfl (Nat.le_of_ble_eq_true rfl) (Nat.le_of_ble_eq_true rfl) (kr_has (by omega)) rfl ?_
            refine ms_if_eq (tgt := 130) dX11_besides_101 (by decide) (fun c101 => ?_) (fun c101 => ?_)
            · refine ms_iconst (v := nI 0) dX11_besides_130 (by decide) ?_
              refine ms_iadd dX11_besides_131 ?_
              refine T2 _ ?_
              rw [hs2, if_neg (fun z => by rw [bi_0.mp c101] at z; cases z.2.1)]
            · refine ms_iload dX11_besides_104 rfl ?_
              refine ms_sipush (v := nI 1440) dX11_besides_106 (by decide) ?_
              refine ms_iadd dX11_besides_109 ?_
              refine ms_iload dX11_besides_110 rfl ?_
              refine ms_isub dX11_besides_112 ?_
              refine ms_sipush (v := nI 660) dX11_besides_113 (by decide) ?_
              refine ms_icmp_ge (tgt := 130) dX11_besides_116 (by decide) (fun c116 => ?_) (fun c116 => ?_)
              · refine ms_iconst (v := nI 0) dX11_besides_130 (by decide) ?_
                refine ms_iadd dX11_besides_131 ?_
                refine T2 _ ?_
                rw [hs2, if_neg (fun z => (Int32.not_lt.mpr c116) z.2.2)]
              · refine ms_aload_n dX11_besides_119 rfl ?_
                refine q_getr dX11_besides_120 fX11_62 kd_11_24 (by first | decide | exact lt_sc (by omega) | exact lt_dy (by omega) | exact lt_rw (by omega) | exact lt_wa (by omega) | exact lt_le (by omega)) (by first | rfl | rw [sh_sc (by omega)] | rw [sh_dy (by omega)]) (by first | rfl | exact rf_wa (by omega) | exact rf_le (by omega) | exact rf_rw (by omega)) ?_
                refine ms_iload_n dX11_besides_123 rfl ?_
                refine q_iald dX11_besides_124 (by first | decide | exact lt_sc (by omega) | exact lt_dy (by omega) | exact lt_rw (by omega) | exact lt_wa (by omega) | exact lt_le (by omega)) (by first | rfl | exact sh_rw (by omega) | exact sh_wa (by omega) | exact sh_le (by omega)) (by omega) (by decide) (by first | assumption | ((repeat ((with_reducible apply m_up2_tr); · first | omega | (intro z; (try unfold scI at z); (try unfold dyI at z); (try unfold rwI at z); (try unfold waI at z); (try unfold leI at z); omega))); first | assumption | exact m_up2_eq | rfl)) ?_
                refine ms_iconst (v := nI 4) dX11_besides_125 (by decide) ?_
                refine ms_idiv dX11_besides_126 (by first | decide | assumption) ?_
                refine ms_goto (tgt := 131) dX11_besides_127 (by decide) ?_
                refine ms_iadd dX11_besides_131 ?_
                refine T2 _ ?_
                rw [hs2, if_pos ⟨hk0, bi_n0.mp c101, Int32.not_le.mp c116⟩]
  refine ms_iconst (v := nI 0) dX11_besides_0 (by decide) ?_
  refine ms_istore_n dX11_besides_1 (Nat.le_of_ble_eq_true rfl) ?_
  refine ms_sipush (v := -10000) dX11_besides_2 (by decide) ?_
  refine ms_istore dX11_besides_5 (Nat.le_of_ble_eq_true rfl) ?_
  refine ms_iconst (v := nI 0) dX11_besides_7 (by decide) ?_
  refine ms_istore dX11_besides_8 (Nat.le_of_ble_eq_true rfl) ?_
  have h9 := loop 31 0 none none (by omega) (by omega)
  rw [hr00, hK0] at h9
  exact h9
def dyR (I : m_I) (n : Nat → Nat) (w : Nat → Nat → Nat) (p : Nat) : Int32 := dsR (fun t => woR I (w t) p (n t)) 30
def tmR (dl x : Int32) : Int32 := if dl = 0 then nI (pc x 30) else if dl = nI 1 then nI (fb_ct (wkB x) 5) else (ruG (bt x) 30).1
def pyR (I : m_I) (n : Nat → Nat) (w pl : Nat → Nat → Nat) (p : Nat) (more : Bool) : Int32 := (bsS I (dyR I n w p) n w pl p 30).1 + (if more then nI 0 else tmR (I 160 p) (dyR I n w p) * I 161 p)
def pjR (I : m_I) (n : Nat → Nat) (w pl : Nat → Nat → Nat) (p : Nat) : m_I := bsJ I (bt (dyR I n w p)) n w pl 30
theorem kr_payOf {S : m_S} {I : m_I} {lg : Int64} {d p : Nat} {n : Nat → Nat} {w pl : Nat → Nat → Nat} (more : Bool) (hd : 4 ≤ d) (hD : ∀ t, t < 30 → Dr I t (n t) (w t)) (hpl : ∀ t j, t < 30 → j < n t → I 147 (w t j) = nI (pl t j) ∧ pl t j < 6) (hp : p < 8) (hen : ∀ t j, t < 30 → j < n t → enR I t (w t) (pl t) j ≠ -10000) : m_R S M_X11_payOf d [.ref 143, .int (nI p), .int (bi more)] (hh I lg) (some (.int (pyR I n w pl p more))) (hh (pjR I n w pl p) lg) := by
  have hda := kr_days (S := S) (lg := lg) (d := d - 1) (by omega) hD hp
  have hbe := kr_besides (S := S) (lg := lg) (d := d - 1) (x := dyR I n w p) (by omega) hD hpl hp hen
  have hsm : smR I (pjR I n w pl p) := smR_bs 30
  obtain ⟨x, hx⟩ : ∃ x, x = dyR I n w p := ⟨_, rfl⟩
  obtain ⟨y, hy⟩ : ∃ y, y = tmR (I 160 p) x := ⟨_, rfl⟩
  have hda' : m_R S M_X11_days (d - 1) [.ref 143, .int (nI p)] (hh I lg) (some (.int x)) (hh I lg) := by rw [hx]; exact hda
  have hbe' : m_R S M_X11_besides (d - 1) [.ref 143, .int (nI p), .int x] (hh I lg) (some (.int (bsS I x n w pl p 30).1)) (hh (pjR I n w pl p) lg) := by rw [hx]; exact hbe
  have hg : pyR I n w pl p more = (bsS I x n w pl p 30).1 + (if more then nI 0 else y * I 161 p) := by rw [hy, hx]; rfl
  rw [hg]
  have tail : ∀ v, v = y → m_W S (M_X11_payOf, d, fun w9 g => w9 = some (.int ((bsS I x n w pl p 30).1 + (if more then nI 0 else y * I 161 p))) ∧ g = hh (pjR I n w pl p) lg, fun _ _ => False) 43 [some (.ref 143), some (.int (nI p)), some (.int (bi more)), some (.int x), none] [.int v] (hh I lg) 0 0 := by
    intro v hv
    subst hv
    refine ms_istore dX11_payOf_43 (Nat.le_of_ble_eq_true rfl) ?_
    refine ms_aload_n dX11_payOf_45 rfl ?_
    refine ms_iload_n dX11_payOf_46 rfl ?_
    refine ms_iload_n dX11_payOf_47 rfl ?_
    refine qRV2 dX11_payOf_48 kX11_235 (by show _ < 178; first | decide | exact lt_sc (by omega) | exact lt_dy (by omega)) (by show (sh0 _).1 = _; first | rfl | rw [sh_sc (by omega)] | rw [sh_dy (by omega)]) (d := d - 1) (by show d - 1 + 1 ≤ d; omega) rfl rfl (Nat.le_of_ble_eq_true rfl) (Nat.le_of_ble_eq_true rfl) (hbe') rfl ?_
    refine ms_iload_n dX11_payOf_51 rfl ?_
    refine ms_if_eq (tgt := 59) dX11_payOf_52 (by decide) (fun c52 => ?_) (fun c52 => ?_)
    · have e := bi_0.mp c52
      subst e
      have hra : pjR I n w pl p 161 p = I 161 p := hsm _ _ (by decide)
      refine ms_iload dX11_payOf_59 rfl ?_
      refine ms_aload_n dX11_payOf_61 rfl ?_
      refine q_getr dX11_payOf_62 fX11_62 kd_11_24 (by first | decide | exact lt_sc (by omega) | exact lt_dy (by omega) | exact lt_rw (by omega) | exact lt_wa (by omega) | exact lt_le (by omega)) (by first | rfl | rw [sh_sc (by omega)] | rw [sh_dy (by omega)]) (by first | rfl | exact rf_wa (by omega) | exact rf_le (by omega) | exact rf_rw (by omega)) ?_
      refine ms_iload_n dX11_payOf_65 rfl ?_
      refine q_iald dX11_payOf_66 (by first | decide | exact lt_sc (by omega) | exact lt_dy (by omega) | exact lt_rw (by omega) | exact lt_wa (by omega) | exact lt_le (by omega)) (by first | rfl | exact sh_rw (by omega) | exact sh_wa (by omega) | exact sh_le (by omega)) (by omega) (by decide) hra ?_
      refine ms_imul dX11_payOf_67 ?_
      refine ms_iadd dX11_payOf_68 ?_
      refine ms_iret dX11_payOf_69 rfl rfl ⟨?_, ?_⟩
      · rfl
      · rfl
    · have e := bi_n0.mp c52
      subst e
      refine ms_iconst (v := nI 0) dX11_payOf_55 (by decide) ?_
      refine ms_goto (tgt := 68) dX11_payOf_56 (by decide) ?_
      refine ms_iadd dX11_payOf_68 ?_
      refine ms_iret dX11_payOf_69 rfl rfl ⟨?_, ?_⟩
      · rfl
      · rfl
  refine ms_aload_n dX11_payOf_0 rfl ?_
  refine ms_iload_n dX11_payOf_1 rfl ?_
  refine qRV1 dX11_payOf_2 kX11_226 (by show _ < 178; first | decide | exact lt_sc (by omega) | exact lt_dy (by omega)) (by show (sh0 _).1 = _; first | rfl | rw [sh_sc (by omega)] | rw [sh_dy (by omega)]) (d := d - 1) (by show d - 1 + 1 ≤ d; omega) rfl (Nat.le_of_ble_eq_true rfl) (Nat.le_of_ble_eq_true rfl) (hda') rfl ?_
  refine ms_istore_n dX11_payOf_5 (Nat.le_of_ble_eq_true rfl) ?_
  refine ms_aload_n dX11_payOf_6 rfl ?_
  refine q_getr dX11_payOf_7 fX11_59 kd_11_23 (by first | decide | exact lt_sc (by omega) | exact lt_dy (by omega) | exact lt_rw (by omega) | exact lt_wa (by omega) | exact lt_le (by omega)) (by first | rfl | rw [sh_sc (by omega)] | rw [sh_dy (by omega)]) (by first | rfl | exact rf_wa (by omega) | exact rf_le (by omega) | exact rf_rw (by omega)) ?_
  refine ms_iload_n dX11_payOf_10 rfl ?_
  refine q_iald dX11_payOf_11 (by first | decide | exact lt_sc (by omega) | exact lt_dy (by omega) | exact lt_rw (by omega) | exact lt_wa (by omega) | exact lt_le (by omega)) (by first | rfl | exact sh_rw (by omega) | exact sh_wa (by omega) | exact sh_le (by omega)) (by omega) (by decide) rfl ?_
  refine ms_if_ne (tgt := 22) dX11_payOf_12 (by decide) (fun c12 => ?_) (fun c12 => ?_)
  · refine ms_aload_n dX11_payOf_22 rfl ?_
    refine q_getr dX11_payOf_23 fX11_59 kd_11_23 (by first | decide | exact lt_sc (by omega) | exact lt_dy (by omega) | exact lt_rw (by omega) | exact lt_wa (by omega) | exact lt_le (by omega)) (by first | rfl | rw [sh_sc (by omega)] | rw [sh_dy (by omega)]) (by first | rfl | exact rf_wa (by omega) | exact rf_le (by omega) | exact rf_rw (by omega)) ?_
    refine ms_iload_n dX11_payOf_26 rfl ?_
    refine q_iald dX11_payOf_27 (by first | decide | exact lt_sc (by omega) | exact lt_dy (by omega) | exact lt_rw (by omega) | exact lt_wa (by omega) | exact lt_le (by omega)) (by first | rfl | exact sh_rw (by omega) | exact sh_wa (by omega) | exact sh_le (by omega)) (by omega) (by decide) (by first | assumption | ((repeat ((with_reducible apply m_up2_tr); · first | omega | (intro z; (try unfold scI at z); (try unfold dyI at z); (try unfold rwI at z); (try unfold waI at z); (try unfold leI at z); omega))); first | assumption | exact m_up2_eq | rfl)) ?_
    refine ms_iconst (v := nI 1) dX11_payOf_28 (by decide) ?_
    refine ms_icmp_ne (tgt := 39) dX11_payOf_29 (by decide) (fun c29 => ?_) (fun c29 => ?_)
    · refine ms_iload_n dX11_payOf_39 rfl ?_
      refine qRS1 dX11_payOf_40 kX11_232 (d := d - 1) (by show d - 1 + 1 ≤ d; omega) rfl (Nat.le_of_ble_eq_true rfl) (Nat.le_of_ble_eq_true rfl) (kr_run (by omega)) rfl ?_
      refine tail _ ?_
      rw [hy]
      unfold tmR
      rw [if_neg c12, if_neg c29]
    · refine ms_iload_n dX11_payOf_32 rfl ?_
      refine qRS1 dX11_payOf_33 kX11_229 (d := d - 1) (by show d - 1 + 1 ≤ d; omega) rfl (Nat.le_of_ble_eq_true rfl) (Nat.le_of_ble_eq_true rfl) (kr_weeks) rfl ?_
      refine ms_goto (tgt := 43) dX11_payOf_36 (by decide) ?_
      refine tail _ ?_
      rw [hy]
      unfold tmR
      rw [if_neg c12, if_pos c29]
  · refine ms_iload_n dX11_payOf_15 rfl ?_
    refine qRS1 dX11_payOf_16 kX11_151 (d := d - 1) (by show d - 1 + 1 ≤ d; omega) rfl (Nat.le_of_ble_eq_true rfl) (Nat.le_of_ble_eq_true rfl) (kr_size) rfl ?_
    refine ms_goto (tgt := 43) dX11_payOf_19 (by decide) ?_
    refine tail _ ?_
    rw [hy]
    unfold tmR
    rw [if_pos c12]

