-- NAME paid
/-! what is paid: both sides alike -/
theorem ifc {p q : Prop} [Decidable p] [Decidable q] {a b : Int32} (h : p ↔ q) : (if p then a else b) = (if q then a else b) := by
  by_cases z : q
  · rw [if_pos z, if_pos (h.mpr z)]
  · rw [if_neg z, if_neg (fun y => z (h.mp y))]
theorem wkG_cong {pe pe' : Nat → Int32} {k : Nat} (h : ∀ j, j < k → pe j = pe' j) : wkG pe k = wkG pe' k := by
  induction k with
  | zero => rfl
  | succ k ih =>
    show wkG pe k ||| pe k = wkG pe' k ||| pe' k
    rw [ih (fun j hj => h j (by omega)), h k (by omega)]
theorem orB_any (f : Nat → Bool) : ∀ k, orB f k = anyB f k := by
  intro k
  induction k with
  | zero => rfl
  | succ k ih =>
    show (orB f k || f k) = (anyB f k || f k)
    rw [ih]
theorem pyG_cong {rate deal : Int32} {more : Bool} {wk wk' : Nat → Bool} {cl cl' wr wr' : Nat → Int32} : ∀ k, (∀ j, j < k → wk j = wk' j ∧ (wk' j = true → cl j = cl' j ∧ wr j = wr' j)) → pyG rate deal more wk cl wr k = pyG rate deal more wk' cl' wr' k := by
  intro k
  induction k with
  | zero => exact fun _ => rfl
  | succ k ih =>
    intro h
    have e := ih (fun j hj => h j (by omega))
    obtain ⟨h1, h2⟩ := h k (by omega)
    unfold pyG
    rw [e, h1]
    rcases Bool.eq_false_or_eq_true (wk' k) with z | z
    · rw [(h2 z).1, (h2 z).2]
    · rw [z]
      dsimp only
      rw [if_neg Bool.false_ne_true, if_neg Bool.false_ne_true]
theorem bsG_cong {rate : Int32} {f f' s5 s5' : Nat → Bool} {fr to : Nat → Int32} : ∀ k, (∀ j, j < k → f j = f' j ∧ (4 < j → s5 j = s5' j)) → bsG rate f s5 fr to k = bsG rate f' s5' fr to k := by
  intro k
  induction k with
  | zero => exact fun _ => rfl
  | succ k ih =>
    intro h
    have e := ih (fun j hj => h j (by omega))
    obtain ⟨h1, h2⟩ := h k (by omega)
    unfold bsG
    rw [e, h1]
    have e2 : (0 < k ∧ f (k - 1) = true ∧ fr k + nI 1440 - (bsG rate f' s5' fr to k).2 < nI 660) ↔ (0 < k ∧ f' (k - 1) = true ∧ fr k + nI 1440 - (bsG rate f' s5' fr to k).2 < nI 660) := by
      refine ⟨fun z => ⟨z.1, ?_, z.2.2⟩, fun z => ⟨z.1, ?_, z.2.2⟩⟩
      · rw [← (h (k - 1) (by omega)).1]
        exact z.2.1
      · rw [(h (k - 1) (by omega)).1]
        exact z.2.1
    have e3 : (4 < k ∧ s5 k = true) ↔ (4 < k ∧ s5' k = true) := by
      refine ⟨fun z => ⟨z.1, ?_⟩, fun z => ⟨z.1, ?_⟩⟩
      · rw [← h2 z.1]
        exact z.2
      · rw [h2 z.1]
        exact z.2
    rw [ifc e2, ifc e3]
theorem ruG_cong {f f' : Nat → Bool} : ∀ k, (∀ j, j < k → f j = f' j) → ruG f k = ruG f' k := by
  intro k
  induction k with
  | zero => exact fun _ => rfl
  | succ k ih =>
    intro h
    unfold ruG
    rw [ih (fun j hj => h j (by omega)), h k (by omega)]
/-- how many days on end -/
def stG2 (f : Nat → Bool) : Nat → Nat
  | 0 => 0
  | k + 1 => if f k then stG2 f k + 1 else 0
theorem stG2_ok (f : Nat → Bool) : ∀ k j, j ≤ stG2 f k ↔ j ≤ k ∧ ∀ i, i < j → f (k - 1 - i) = true := by
  intro k
  induction k with
  | zero => exact fun j => ⟨fun h => ⟨h, fun i hi => by have h1 : j ≤ 0 := h; omega⟩, fun h => h.1⟩
  | succ k ih =>
    intro j
    unfold stG2
    rcases Bool.eq_false_or_eq_true (f k) with z | z
    · rw [z, if_pos rfl]
      rcases Nat.eq_zero_or_pos j with e | e
      · subst e
        exact ⟨fun _ => ⟨Nat.zero_le _, fun i hi => absurd hi (Nat.not_lt_zero i)⟩, fun _ => Nat.zero_le _⟩
      · have h1 := ih (j - 1)
        refine ⟨fun h => ?_, fun h => ?_⟩
        · obtain ⟨a, b⟩ := h1.mp (by omega)
          refine ⟨by omega, fun i hi => ?_⟩
          rcases Nat.eq_zero_or_pos i with y | y
          · rw [y]
            exact z
          · have := b (i - 1) (by omega)
            rw [show k - 1 - (i - 1) = k + 1 - 1 - i by omega] at this
            exact this
        · have : j - 1 ≤ stG2 f k := h1.mpr ⟨by omega, fun i hi => by
            have := h.2 (i + 1) (by omega)
            rw [show k + 1 - 1 - (i + 1) = k - 1 - i by omega] at this
            exact this⟩
          omega
    · rw [z, if_neg (by decide)]
      refine ⟨fun h => ⟨by omega, fun i hi => by omega⟩, fun h => ?_⟩
      rcases Nat.eq_zero_or_pos j with e | e
      · omega
      · have := h.2 0 e
        rw [show k + 1 - 1 - 0 = k by omega, z] at this
        cases this
/-- the weeks with work before the day k -/
def wkU (f : Nat → Bool) (k j : Nat) : Bool := anyB (fun d => f d && decide (d / 7 = j)) k
def wkN (f : Nat → Bool) (k : Nat) : Nat := fb_ct (wkU f k) 5
theorem wkN_y {f : Nat → Bool} {k : Nat} (hk : k < 30) (h : f k = true) : wkN f (k + 1) = wkN f k + if wkU f k (k / 7) then 0 else 1 := by
  have e : wkN f (k + 1) = fb_ct (fun j => if j = k / 7 then true else wkU f k j) 5 := fb_ct_cong (fun j hj => by
    show (wkU f k j || (f k && decide (k / 7 = j))) = _
    rw [h, Bool.true_and]
    by_cases z : j = k / 7
    · rw [if_pos z, decide_eq_true z.symm, Bool.or_true]
    · rw [if_neg z, decide_eq_false (fun y => z y.symm), Bool.or_false])
  have h2 := fb_ct_upd (wkU f k) true (i := k / 7) (n := 5) (by omega)
  rw [e]
  unfold wkN
  rw [if_pos rfl] at h2
  cases z : wkU f k (k / 7)
  · rw [z, if_neg (by decide)] at h2
    rw [if_neg (by decide)]
    omega
  · rw [z, if_pos rfl] at h2
    rw [if_pos rfl]
    omega
theorem wkN_n {f : Nat → Bool} {k : Nat} (h : f k = false) : wkN f (k + 1) = wkN f k := fb_ct_cong (fun j hj => by
  show (wkU f k j || (f k && decide (k / 7 = j))) = _
  rw [h, Bool.false_and, Bool.or_false])
theorem bh_ho (x : Int32) : bhF x = hoR x := by
  unfold bhF hoR
  by_cases z : 0 < x
  · rw [if_pos z, if_neg (Int32.not_le.mpr z)]
  · rw [if_neg z, if_pos (Int32.not_lt.mp z)]
def tmG (deal : Int32) (f : Nat → Bool) (k : Nat) : Int32 := if deal = 0 then nI (fb_ct f k) else if deal = nI 1 then nI (wkN f k) else (ruG f k).1
/-- the last day of work -/
theorem ruG_la (f : Nat → Bool) : ∀ k, ((ruG f k).2 = -1 ∧ ∀ d, d < k → f d = false) ∨ ∃ l, l < k ∧ (ruG f k).2 = nI l ∧ f l = true ∧ ∀ d, l < d → d < k → f d = false := by
  intro k
  induction k with
  | zero => exact Or.inl ⟨rfl, fun d hd => absurd hd (Nat.not_lt_zero d)⟩
  | succ k ih =>
    rcases Bool.eq_false_or_eq_true (f k) with z | z
    · have e : (ruG f (k + 1)).2 = nI k := congrArg Prod.snd (if_pos z)
      exact Or.inr ⟨k, by omega, e, z, fun d h1 h2 => by omega⟩
    · have e : ruG f (k + 1) = ruG f k := if_neg (by rw [z]; decide)
      rw [e]
      rcases ih with ⟨h1, h2⟩ | ⟨l, h1, h2, h3, h4⟩
      · refine Or.inl ⟨h1, fun d hd => ?_⟩
        by_cases y : d = k
        · rw [y]
          exact z
        · exact h2 d (by omega)
      · refine Or.inr ⟨l, by omega, h2, h3, fun d g1 g2 => ?_⟩
        by_cases y : d = k
        · rw [y]
          exact z
        · exact h4 d g1 (by omega)
theorem tmG_y {deal : Int32} {f : Nat → Bool} {k : Nat} (hk : k < 30) (h : f k = true) : tmG deal f (k + 1) = tmG deal f k + duF deal (nI k) (ruG f k).2 := by
  unfold tmG duF
  by_cases d0 : deal = 0
  · rw [if_pos d0, if_pos d0, if_pos (Or.inr d0), fb_ct_succ, h, if_pos rfl, nI_add]
  · rw [if_neg d0, if_neg d0]
    rcases ruG_la f k with ⟨h1, h2⟩ | ⟨l, h1, h2, h3, h4⟩
    · rw [h1, if_pos (Or.inl rfl)]
      by_cases d1 : deal = nI 1
      · rw [if_pos d1, if_pos d1, wkN_y hk h]
        have e : wkU f k (k / 7) = false := anyB_f.mpr (fun d hd => by rw [h2 d hd]; rfl)
        rw [e, if_neg (by decide), nI_add]
      · rw [if_neg d1, if_neg d1]
        have e : (ruG f (k + 1)).1 = (ruG f k).1 + (if (ruG f k).2 = -1 ∨ nI 10 < nI k - (ruG f k).2 then nI 1 else nI k - (ruG f k).2) := congrArg Prod.fst (if_pos h)
        rw [e, if_pos (Or.inl h1)]
    · have hl : ¬ ((ruG f k).2 = -1 ∨ deal = 0) := fun z => z.elim (fun y => by
        have h0 := nI_pos (n := l) (by omega)
        rw [← h2, y] at h0
        exact absurd (by decide) h0) d0
      rw [if_neg hl]
      by_cases d1 : deal = nI 1
      · rw [if_pos d1, if_pos d1, if_pos d1, wkN_y hk h, h2, show (nI 7 : Int32) = nI 7 from rfl, pk_div (by omega) (by decide) (by decide), pk_div (by omega) (by decide) (by decide)]
        by_cases z : l / 7 = k / 7
        · have e : wkU f k (k / 7) = true := anyB_t (k := l) h1 (by rw [h3, z, decide_eq_true rfl]; rfl)
          rw [e, if_pos rfl, if_pos (by rw [z]), nI_add]
        · have e : wkU f k (k / 7) = false := anyB_f.mpr (fun d hd => by
            rcases Nat.lt_or_ge l d with y | y
            · rw [h4 d y hd]; rfl
            · rw [decide_eq_false (by omega), Bool.and_false])
          rw [e, if_neg (by decide), if_neg (fun y => z ((nI_eq (by omega) (by omega)).mp y)), nI_add]
      · rw [if_neg d1, if_neg d1, if_neg d1]
        have e : (ruG f (k + 1)).1 = (ruG f k).1 + (if (ruG f k).2 = -1 ∨ nI 10 < nI k - (ruG f k).2 then nI 1 else nI k - (ruG f k).2) := congrArg Prod.fst (if_pos h)
        rw [e]
        congr 1
        by_cases z : nI k - (ruG f k).2 ≤ nI 10
        · rw [if_pos z, if_neg (fun y => y.elim (fun y => hl (Or.inl y)) (Int32.not_lt.mpr z))]
        · rw [if_neg z, if_pos (Or.inr (Int32.not_le.mp z))]
theorem tmG_n {deal : Int32} {f : Nat → Bool} {k : Nat} (h : f k = false) : tmG deal f (k + 1) = tmG deal f k := by
  have e : ruG f (k + 1) = ruG f k := if_neg (by rw [h]; decide)
  unfold tmG
  rw [fb_ct_succ, h, wkN_n h, e]
  rfl
/-- the money, day by day, both ways -/
theorem py_bs {rate deal : Int32} {more : Bool} {f s5 : Nat → Bool} {fr to : Nat → Int32} (h5 : ∀ k, k < 30 → (4 < k ∧ s5 k = true ↔ 5 ≤ stG2 f k)) : ∀ k, k ≤ 30 → (pyG rate deal more f fr to k).2.1 = (ruG f k).2 ∧ (pyG rate deal more f fr to k).2.2.2 = stG2 f k ∧ (0 < stG2 f k → (pyG rate deal more f fr to k).2.2.1 = (bsG rate f s5 fr to k).2) ∧ (pyG rate deal more f fr to k).1 = (bsG rate f s5 fr to k).1 + (if more then nI 0 else tmG deal f k * rate) := by
  intro k
  induction k with
  | zero =>
    refine fun _ => ⟨rfl, rfl, fun h => absurd h (Nat.lt_irrefl 0), ?_⟩
    show nI 0 = nI 0 + (if more then nI 0 else tmG deal f 0 * rate)
    have e : tmG deal f 0 = nI 0 := by
      unfold tmG
      repeat' split
      all_goals rfl
    rw [e]
    have e2 : nI 0 * rate = nI 0 := Int32.zero_mul
    rw [e2]
    cases more <;> rfl
  | succ k ih =>
    intro hk
    obtain ⟨g1, g2, g3, g4⟩ := ih (by omega)
    rcases Bool.eq_false_or_eq_true (f k) with z | z
    · have eR : (ruG f (k + 1)).2 = nI k := congrArg Prod.snd (if_pos z)
      have eS : stG2 f (k + 1) = stG2 f k + 1 := if_pos z
      obtain ⟨q, hq⟩ : ∃ q, q = pyG rate deal more f fr to k := ⟨_, rfl⟩
      obtain ⟨b, hb⟩ : ∃ b, b = bsG rate f s5 fr to k := ⟨_, rfl⟩
      rw [← hq] at g1 g2 g3 g4
      rw [← hb] at g3 g4
      obtain ⟨H, hH⟩ : ∃ H, H = (hoR (to k - fr k - nI 600) + hoR (to k - nI 1320)) * (rate / nI 10) := ⟨_, rfl⟩
      have eP : pyG rate deal more f fr to (k + 1) = ((if 5 ≤ q.2.2.2 then (if 0 < q.2.2.2 ∧ fr k + nI 1440 - q.2.2.1 < nI 660 then (if more then q.1 else q.1 + rate * duF deal (nI k) q.2.1) + H + rate / nI 4 else (if more then q.1 else q.1 + rate * duF deal (nI k) q.2.1) + H) + rate / nI 2 else (if 0 < q.2.2.2 ∧ fr k + nI 1440 - q.2.2.1 < nI 660 then (if more then q.1 else q.1 + rate * duF deal (nI k) q.2.1) + H + rate / nI 4 else (if more then q.1 else q.1 + rate * duF deal (nI k) q.2.1) + H)), nI k, to k, q.2.2.2 + 1) := by
        conv => lhs; unfold pyG
        rw [← hq, if_pos z, bh_ho, bh_ho, ← hH]
      have eB : bsG rate f s5 fr to (k + 1) = (b.1 + H + (if 0 < k ∧ f (k - 1) = true ∧ fr k + nI 1440 - b.2 < nI 660 then rate / nI 4 else nI 0) + (if 4 < k ∧ s5 k = true then rate / nI 2 else nI 0), to k) := by
        conv => lhs; unfold bsG
        rw [← hb, if_pos z, ← hH]
      rw [eP, eB, eR, eS, g2]
      refine ⟨rfl, rfl, fun _ => rfl, ?_⟩
      have c4 : (0 < k ∧ f (k - 1) = true ∧ fr k + nI 1440 - b.2 < nI 660) ↔ (0 < stG2 f k ∧ fr k + nI 1440 - q.2.2.1 < nI 660) := by
        have e0 := stG2_ok f k 1
        refine ⟨fun ⟨y1, y2, y3⟩ => ?_, fun ⟨y1, y2⟩ => ?_⟩
        · have y4 : 0 < stG2 f k := e0.mpr ⟨y1, fun i hi => by rw [show i = 0 by omega]; exact y2⟩
          exact ⟨y4, by rw [g3 y4]; exact y3⟩
        · obtain ⟨y3, y4⟩ := e0.mp y1
          exact ⟨y3, y4 0 (by omega), by rw [← g3 y1]; exact y2⟩
      rw [ifc c4, ifc (h5 k (by omega))]
      show (if 5 ≤ stG2 f k then _ else _) = _
      have eT : (if more then q.1 else q.1 + rate * duF deal (nI k) q.2.1) = b.1 + (if more then nI 0 else tmG deal f (k + 1) * rate) := by
        rw [g4, g1]
        cases more
        · show b.1 + tmG deal f k * rate + rate * duF deal (nI k) (ruG f k).2 = b.1 + tmG deal f (k + 1) * rate
          rw [tmG_y (by omega) z, Int32.add_mul, Int32.add_assoc, Int32.mul_comm rate]
        · show b.1 + nI 0 = b.1 + nI 0
          rfl
      rw [eT]
      dsimp only
      obtain ⟨T, hT⟩ : ∃ T, T = (if more then nI 0 else tmG deal f (k + 1) * rate) := ⟨_, rfl⟩
      rw [← hT]
      have z0 : ∀ x : Int32, x + nI 0 = x := fun x => Int32.add_zero x
      by_cases y5 : 5 ≤ stG2 f k
      · rw [if_pos y5, if_pos y5]
        by_cases y4 : 0 < stG2 f k ∧ fr k + nI 1440 - q.2.2.1 < nI 660
        · rw [if_pos y4, if_pos y4]
          ac_rfl
        · rw [if_neg y4, if_neg y4, z0]
          ac_rfl
      · rw [if_neg y5, if_neg y5, z0]
        by_cases y4 : 0 < stG2 f k ∧ fr k + nI 1440 - q.2.2.1 < nI 660
        · rw [if_pos y4, if_pos y4]
          ac_rfl
        · rw [if_neg y4, if_neg y4, z0]
          ac_rfl
    · have eR : ruG f (k + 1) = ruG f k := if_neg (by rw [z]; decide)
      have eS : stG2 f (k + 1) = 0 := if_neg (by rw [z]; decide)
      have eP : pyG rate deal more f fr to (k + 1) = ((pyG rate deal more f fr to k).1, (pyG rate deal more f fr to k).2.1, (pyG rate deal more f fr to k).2.2.1, 0) := by
        conv => lhs; unfold pyG
        rw [if_neg (by rw [z]; decide)]
      have eB : bsG rate f s5 fr to (k + 1) = bsG rate f s5 fr to k := if_neg (by rw [z]; decide)
      rw [eP, eB, eR, eS, tmG_n z]
      exact ⟨g1, rfl, fun h => absurd h (Nat.lt_irrefl 0), g4⟩

