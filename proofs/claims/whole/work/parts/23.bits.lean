/-! numbers of my own: a bit told, a bit put, truths as ints -/
def bi (c : Bool) : Int32 := if c then 1 else 0
theorem bi_t : bi true = 1 := rfl
theorem bi_f : bi false = 0 := rfl
theorem bi_01 (c : Bool) : bi c = 0 ∨ bi c = 1 := by cases c; exact Or.inl rfl; exact Or.inr rfl
theorem bi_0 {c : Bool} : bi c = 0 ↔ c = false := by cases c <;> decide
theorem bi_n0 {c : Bool} : ¬ bi c = 0 ↔ c = true := by cases c <;> decide
theorem bi_of {x : Int32} (h : x = 0 ∨ x = 1) : x = bi (decide (x = 1)) := by rcases h with rfl | rfl <;> decide
theorem bi_inj {a b : Bool} (h : bi a = bi b) : a = b := by cases a <;> cases b <;> first | rfl | (exact absurd h (by decide))
theorem b_1 (i : Nat) : bt 1 i = decide (i = 0) := by
  rcases Nat.lt_or_ge i 32 with h | h
  · exact (by decide +kernel : ∀ i, i < 32 → bt 1 i = decide (i = 0)) i h
  · rw [b_big h, decide_eq_false (by omega)]
theorem b_and1 (x : Int32) : x &&& 1 = bi (bt x 0) := by
  apply b_ext
  intro i hi
  rw [b_and, b_1]
  by_cases h : i = 0
  · subst h
    cases bt x 0 <;> decide
  · have e : bt (bi (bt x 0)) i = false := by
      cases bt x 0
      · exact b_0 i
      · rw [bi_t, b_1, decide_eq_false h]
    rw [e, decide_eq_false h, Bool.and_false]
/-- the bit that 'bits >> bit & 1' tells -/
theorem b_has (x : Int32) {b : Nat} (hb : b < 32) : (x >>> (nI b &&& 31)) &&& nI 1 = bi (bt x b) := by
  show (x >>> (nI b &&& 31)) &&& 1 = _
  rw [b_and1, b_sshr b hb x (by omega)]
  simp [hb]
def wb (x : Int32) (b : Nat) (c : Bool) : Int32 := if c then x ||| ((nI 1) <<< (nI b &&& 31)) else x &&& (((nI 1) <<< (nI b &&& 31)) ^^^ (-1))
theorem b_one {b i : Nat} (hb : b < 32) (hi : i < 32) : bt ((nI 1) <<< (nI b &&& 31)) i = decide (i = b) := by
  show bt (1 <<< (nI b &&& 31)) i = _
  rw [b_shl b hb 1 hi, b_1]
  rcases Nat.lt_trichotomy i b with h | h | h
  · rw [decide_eq_false (show ¬ b ≤ i by omega), decide_eq_false (show ¬ i = b by omega)]; rfl
  · subst h; simp
  · rw [decide_eq_true (show b ≤ i by omega), decide_eq_false (show ¬ i - b = 0 by omega), decide_eq_false (show ¬ i = b by omega)]; rfl
theorem b_wb (x : Int32) {b i : Nat} (c : Bool) (hb : b < 32) (hi : i < 32) : bt (wb x b c) i = if i = b then c else bt x i := by
  cases c
  · show bt (x &&& (((nI 1) <<< (nI b &&& 31)) ^^^ (-1))) i = _
    rw [b_and, b_xor, b_one hb hi, b_m1 i hi]
    by_cases h : i = b <;> simp [h]
  · show bt (x ||| ((nI 1) <<< (nI b &&& 31))) i = _
    rw [b_or, b_one hb hi]
    by_cases h : i = b <;> simp [h]
theorem b_nI (n i : Nat) (hi : i < 32) : bt (nI n) i = n.testBit i := by
  unfold bt
  show (BitVec.ofNat 32 n).getLsbD i = _
  rw [BitVec.getLsbD_ofNat]
  simp [hi]
/-- how many of the first n bits -/
def pc (x : Int32) (n : Nat) : Nat := fb_ct (fun i => bt x i) n
theorem pc_cong {x y : Int32} {n : Nat} (h : ∀ i, i < n → bt x i = bt y i) : pc x n = pc y n := fb_ct_cong h
