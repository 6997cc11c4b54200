-- NAME rel
/-! both sides: where a number of the reference stands in the class -/
def mpR (a b : Nat) : Nat × Nat := match a with
  | 143 => match b with
    | 1 => (72, 4)
    | 2 => (1, 4)
    | 3 => (1, 3)
    | 20 => (73, 0)
    | 21 => (73, 1)
    | 22 => (65, 4)
    | 28 => (69, 2)
    | _ => (300, b)
  | 144 => (3, b)
  | 145 => (scI b, 6)
  | 146 => (scI b, 7)
  | 147 => (scI b, 0)
  | 148 => (scI b, 1)
  | 149 => (scI b, 2)
  | 150 => (scI b, 3)
  | 151 => (scI b, 4)
  | 152 => (waI (b / 4), b % 4)
  | 153 => (leI (b / 4), b % 4)
  | 154 => (scI b, 5)
  | 155 => (scI b, 11)
  | 156 => (scI b, 12)
  | 157 => (scI b, 13)
  | 158 => (scI b, 14)
  | 159 => (scI b, 15)
  | 160 => (66, b)
  | 161 => (67, b)
  | 162 => (68, b)
  | 165 => (70, b)
  | 167 => (71, b)
  | 168 => (dyI b, 0)
  | 169 => (dyI b, 1)
  | 170 => (dyI b, 2)
  | 171 => (rwI (b / 8), b % 8)
  | 172 => (dyI b, 6)
  | _ => (300, b)
/-- the slots of the reference that are told so, with m scenes -/
def lvR (m a b : Nat) : Prop := (a = 143 ∧ (b = 1 ∨ b = 2 ∨ b = 3 ∨ b = 20 ∨ b = 21 ∨ b = 22 ∨ b = 28)) ∨ (144 ≤ a ∧ a ≤ 151 ∧ b < 20) ∨ (152 ≤ a ∧ a ≤ 153 ∧ b < 4 * m) ∨ (154 ≤ a ∧ a ≤ 158 ∧ b < 20) ∨ (a = 159 ∧ b < m) ∨ (160 ≤ a ∧ a ≤ 162 ∧ b < 8) ∨ (a = 165 ∧ b < 6) ∨ (a = 167 ∧ b < 36) ∨ (168 ≤ a ∧ a ≤ 170 ∧ b < 30) ∨ (a = 171 ∧ b < 240) ∨ (a = 172 ∧ b < 30)
def imA (c d : Nat) : Nat := if c = 1 then 143 else if c = 3 then 144 else if c < 65 then (if (c - 5) % 3 = 0 then (if d ≤ 4 then 147 + d else if d = 5 then 154 else if d = 6 then 145 else if d = 7 then 146 else 144 + d) else if (c - 5) % 3 = 1 then 152 else 153) else if c = 65 then 143 else if c ≤ 68 then 94 + c else if c = 69 then 143 else if c = 70 then 165 else if c = 71 then 167 else if c ≤ 73 then 143 else if (c - 80) % 2 = 0 then (if d = 6 then 172 else 168 + d) else 171
def imB (c d : Nat) : Nat := if c = 1 then (if d = 4 then 2 else 3) else if c = 3 then d else if c < 65 then (if (c - 5) % 3 = 0 then (c - 5) / 3 else 4 * ((c - 5) / 3) + d) else if c = 65 then 22 else if c ≤ 68 then d else if c = 69 then 28 else if c ≤ 71 then d else if c = 72 then 1 else if c = 73 then 20 + d else if (c - 80) % 2 = 0 then (c - 80) / 2 else 8 * ((c - 80) / 2) + d
/-- slots of the class that the reference knows -/
def okC (c d : Nat) : Prop := c < 140 ∧ c ≠ 4 ∧ ¬ (75 ≤ c ∧ c ≤ 79) ∧ ¬ (5 ≤ c ∧ c < 65 ∧ d = 10) ∧ ¬ (c = 65 ∧ d = 3) ∧ ¬ (80 ≤ c ∧ (c - 80) % 2 = 0 ∧ (d = 3 ∨ d = 4))
def mpP (a b : Nat) (q : Nat × Nat) : Prop := okC q.1 q.2 ∧ imA q.1 q.2 = a ∧ imB q.1 q.2 = b
theorem mp_144 {b : Nat} (h : b < 20) : mpP 144 b (mpR 144 b) := by
  show mpP 144 b (3, b)
  unfold mpP okC imA imB
  dsimp only
  refine ⟨by omega, ?_, ?_⟩ <;> (repeat (first | rw [if_neg (by omega)] | rw [if_pos (by omega)])) <;> omega
theorem mp_145 {b : Nat} (h : b < 20) : mpP 145 b (mpR 145 b) := by
  show mpP 145 b (5 + 3 * b, 6)
  unfold mpP okC imA imB
  dsimp only
  refine ⟨by omega, ?_, ?_⟩ <;> (repeat (first | rw [if_neg (by omega)] | rw [if_pos (by omega)])) <;> omega
theorem mp_146 {b : Nat} (h : b < 20) : mpP 146 b (mpR 146 b) := by
  show mpP 146 b (5 + 3 * b, 7)
  unfold mpP okC imA imB
  dsimp only
  refine ⟨by omega, ?_, ?_⟩ <;> (repeat (first | rw [if_neg (by omega)] | rw [if_pos (by omega)])) <;> omega
theorem mp_147 {b : Nat} (h : b < 20) : mpP 147 b (mpR 147 b) := by
  show mpP 147 b (5 + 3 * b, 0)
  unfold mpP okC imA imB
  dsimp only
  refine ⟨by omega, ?_, ?_⟩ <;> (repeat (first | rw [if_neg (by omega)] | rw [if_pos (by omega)])) <;> omega
theorem mp_148 {b : Nat} (h : b < 20) : mpP 148 b (mpR 148 b) := by
  show mpP 148 b (5 + 3 * b, 1)
  unfold mpP okC imA imB
  dsimp only
  refine ⟨by omega, ?_, ?_⟩ <;> (repeat (first | rw [if_neg (by omega)] | rw [if_pos (by omega)])) <;> omega
theorem mp_149 {b : Nat} (h : b < 20) : mpP 149 b (mpR 149 b) := by
  show mpP 149 b (5 + 3 * b, 2)
  unfold mpP okC imA imB
  dsimp only
  refine ⟨by omega, ?_, ?_⟩ <;> (repeat (first | rw [if_neg (by omega)] | rw [if_pos (by omega)])) <;> omega
theorem mp_150 {b : Nat} (h : b < 20) : mpP 150 b (mpR 150 b) := by
  show mpP 150 b (5 + 3 * b, 3)
  unfold mpP okC imA imB
  dsimp only
  refine ⟨by omega, ?_, ?_⟩ <;> (repeat (first | rw [if_neg (by omega)] | rw [if_pos (by omega)])) <;> omega
theorem mp_151 {b : Nat} (h : b < 20) : mpP 151 b (mpR 151 b) := by
  show mpP 151 b (5 + 3 * b, 4)
  unfold mpP okC imA imB
  dsimp only
  refine ⟨by omega, ?_, ?_⟩ <;> (repeat (first | rw [if_neg (by omega)] | rw [if_pos (by omega)])) <;> omega
theorem mp_152 {b : Nat} {m : Nat} (hm : m ≤ 20) (h : b < 4 * m) : mpP 152 b (mpR 152 b) := by
  show mpP 152 b (6 + 3 * (b / 4), b % 4)
  unfold mpP okC imA imB
  dsimp only
  refine ⟨by omega, ?_, ?_⟩ <;> (repeat (first | rw [if_neg (by omega)] | rw [if_pos (by omega)])) <;> omega
theorem mp_153 {b : Nat} {m : Nat} (hm : m ≤ 20) (h : b < 4 * m) : mpP 153 b (mpR 153 b) := by
  show mpP 153 b (7 + 3 * (b / 4), b % 4)
  unfold mpP okC imA imB
  dsimp only
  refine ⟨by omega, ?_, ?_⟩ <;> (repeat (first | rw [if_neg (by omega)] | rw [if_pos (by omega)])) <;> omega
theorem mp_154 {b : Nat} (h : b < 20) : mpP 154 b (mpR 154 b) := by
  show mpP 154 b (5 + 3 * b, 5)
  unfold mpP okC imA imB
  dsimp only
  refine ⟨by omega, ?_, ?_⟩ <;> (repeat (first | rw [if_neg (by omega)] | rw [if_pos (by omega)])) <;> omega
theorem mp_155 {b : Nat} (h : b < 20) : mpP 155 b (mpR 155 b) := by
  show mpP 155 b (5 + 3 * b, 11)
  unfold mpP okC imA imB
  dsimp only
  refine ⟨by omega, ?_, ?_⟩ <;> (repeat (first | rw [if_neg (by omega)] | rw [if_pos (by omega)])) <;> omega
theorem mp_156 {b : Nat} (h : b < 20) : mpP 156 b (mpR 156 b) := by
  show mpP 156 b (5 + 3 * b, 12)
  unfold mpP okC imA imB
  dsimp only
  refine ⟨by omega, ?_, ?_⟩ <;> (repeat (first | rw [if_neg (by omega)] | rw [if_pos (by omega)])) <;> omega
theorem mp_157 {b : Nat} (h : b < 20) : mpP 157 b (mpR 157 b) := by
  show mpP 157 b (5 + 3 * b, 13)
  unfold mpP okC imA imB
  dsimp only
  refine ⟨by omega, ?_, ?_⟩ <;> (repeat (first | rw [if_neg (by omega)] | rw [if_pos (by omega)])) <;> omega
theorem mp_158 {b : Nat} (h : b < 20) : mpP 158 b (mpR 158 b) := by
  show mpP 158 b (5 + 3 * b, 14)
  unfold mpP okC imA imB
  dsimp only
  refine ⟨by omega, ?_, ?_⟩ <;> (repeat (first | rw [if_neg (by omega)] | rw [if_pos (by omega)])) <;> omega
theorem mp_159 {b : Nat} (h : b < 20) : mpP 159 b (mpR 159 b) := by
  show mpP 159 b (5 + 3 * b, 15)
  unfold mpP okC imA imB
  dsimp only
  refine ⟨by omega, ?_, ?_⟩ <;> (repeat (first | rw [if_neg (by omega)] | rw [if_pos (by omega)])) <;> omega
theorem mp_160 {b : Nat} (h : b < 8) : mpP 160 b (mpR 160 b) := by
  show mpP 160 b (66, b)
  unfold mpP okC imA imB
  dsimp only
  refine ⟨by omega, ?_, ?_⟩ <;> (repeat (first | rw [if_neg (by omega)] | rw [if_pos (by omega)])) <;> omega
theorem mp_161 {b : Nat} (h : b < 8) : mpP 161 b (mpR 161 b) := by
  show mpP 161 b (67, b)
  unfold mpP okC imA imB
  dsimp only
  refine ⟨by omega, ?_, ?_⟩ <;> (repeat (first | rw [if_neg (by omega)] | rw [if_pos (by omega)])) <;> omega
theorem mp_162 {b : Nat} (h : b < 8) : mpP 162 b (mpR 162 b) := by
  show mpP 162 b (68, b)
  unfold mpP okC imA imB
  dsimp only
  refine ⟨by omega, ?_, ?_⟩ <;> (repeat (first | rw [if_neg (by omega)] | rw [if_pos (by omega)])) <;> omega
theorem mp_165 {b : Nat} (h : b < 6) : mpP 165 b (mpR 165 b) := by
  show mpP 165 b (70, b)
  unfold mpP okC imA imB
  dsimp only
  refine ⟨by omega, ?_, ?_⟩ <;> (repeat (first | rw [if_neg (by omega)] | rw [if_pos (by omega)])) <;> omega
theorem mp_167 {b : Nat} (h : b < 36) : mpP 167 b (mpR 167 b) := by
  show mpP 167 b (71, b)
  unfold mpP okC imA imB
  dsimp only
  refine ⟨by omega, ?_, ?_⟩ <;> (repeat (first | rw [if_neg (by omega)] | rw [if_pos (by omega)])) <;> omega
theorem mp_168 {b : Nat} (h : b < 30) : mpP 168 b (mpR 168 b) := by
  show mpP 168 b (80 + 2 * b, 0)
  unfold mpP okC imA imB
  dsimp only
  refine ⟨by omega, ?_, ?_⟩ <;> (repeat (first | rw [if_neg (by omega)] | rw [if_pos (by omega)])) <;> omega
theorem mp_169 {b : Nat} (h : b < 30) : mpP 169 b (mpR 169 b) := by
  show mpP 169 b (80 + 2 * b, 1)
  unfold mpP okC imA imB
  dsimp only
  refine ⟨by omega, ?_, ?_⟩ <;> (repeat (first | rw [if_neg (by omega)] | rw [if_pos (by omega)])) <;> omega
theorem mp_170 {b : Nat} (h : b < 30) : mpP 170 b (mpR 170 b) := by
  show mpP 170 b (80 + 2 * b, 2)
  unfold mpP okC imA imB
  dsimp only
  refine ⟨by omega, ?_, ?_⟩ <;> (repeat (first | rw [if_neg (by omega)] | rw [if_pos (by omega)])) <;> omega
theorem mp_171 {b : Nat} (h : b < 240) : mpP 171 b (mpR 171 b) := by
  show mpP 171 b (81 + 2 * (b / 8), b % 8)
  unfold mpP okC imA imB
  dsimp only
  refine ⟨by omega, ?_, ?_⟩ <;> (repeat (first | rw [if_neg (by omega)] | rw [if_pos (by omega)])) <;> omega
theorem mp_172 {b : Nat} (h : b < 30) : mpP 172 b (mpR 172 b) := by
  show mpP 172 b (80 + 2 * b, 6)
  unfold mpP okC imA imB
  dsimp only
  refine ⟨by omega, ?_, ?_⟩ <;> (repeat (first | rw [if_neg (by omega)] | rw [if_pos (by omega)])) <;> omega
theorem mp_all {m a b : Nat} (hm : m ≤ 20) (h : lvR m a b) : okC (mpR a b).1 (mpR a b).2 ∧ imA (mpR a b).1 (mpR a b).2 = a ∧ imB (mpR a b).1 (mpR a b).2 = b := by
  show mpP a b (mpR a b)
  rcases h with ⟨rfl, h⟩ | ⟨h1, h2, h⟩ | ⟨h1, h2, h⟩ | ⟨h1, h2, h⟩ | ⟨rfl, h⟩ | ⟨h1, h2, h⟩ | ⟨rfl, h⟩ | ⟨rfl, h⟩ | ⟨h1, h2, h⟩ | ⟨rfl, h⟩ | ⟨rfl, h⟩
  · rcases h with rfl | rfl | rfl | rfl | rfl | rfl | rfl <;> (unfold mpP okC; decide)
  · have e : a = 144 ∨ a = 145 ∨ a = 146 ∨ a = 147 ∨ a = 148 ∨ a = 149 ∨ a = 150 ∨ a = 151 := by omega
    rcases e with rfl | rfl | rfl | rfl | rfl | rfl | rfl | rfl
    · exact mp_144 h
    · exact mp_145 h
    · exact mp_146 h
    · exact mp_147 h
    · exact mp_148 h
    · exact mp_149 h
    · exact mp_150 h
    · exact mp_151 h
  · have e : a = 152 ∨ a = 153 := by omega
    rcases e with rfl | rfl
    · exact mp_152 hm h
    · exact mp_153 hm h
  · have e : a = 154 ∨ a = 155 ∨ a = 156 ∨ a = 157 ∨ a = 158 := by omega
    rcases e with rfl | rfl | rfl | rfl | rfl
    · exact mp_154 h
    · exact mp_155 h
    · exact mp_156 h
    · exact mp_157 h
    · exact mp_158 h
  · exact mp_159 (by omega)
  · have e : a = 160 ∨ a = 161 ∨ a = 162 := by omega
    rcases e with rfl | rfl | rfl
    · exact mp_160 h
    · exact mp_161 h
    · exact mp_162 h
  · exact mp_165 h
  · exact mp_167 h
  · have e : a = 168 ∨ a = 169 ∨ a = 170 := by omega
    rcases e with rfl | rfl | rfl
    · exact mp_168 h
    · exact mp_169 h
    · exact mp_170 h
  · exact mp_171 h
  · exact mp_172 h
theorem mp_inj {m a b a2 b2 : Nat} (hm : m ≤ 20) (h : lvR m a b) (h2 : lvR m a2 b2) (e1 : (mpR a b).1 = (mpR a2 b2).1) (e2 : (mpR a b).2 = (mpR a2 b2).2) : a = a2 ∧ b = b2 := by
  obtain ⟨-, p1, p2⟩ := mp_all hm h
  obtain ⟨-, q1, q2⟩ := mp_all hm h2
  rw [e1, e2] at p1 p2
  exact ⟨p1.symm.trans q1, p2.symm.trans q2⟩
/-- so many people, places -/
def vpn (I : m_I) : Nat := vN (I 65 4)
def vlc (I : m_I) : Nat := vN (I 69 2)
/-- the reference's numbers in J are the class's in I -/
def Cr (I J : m_I) : Prop := (∀ a b, lvR (vm I) a b → J a b = I (mpR a b).1 (mpR a b).2) ∧ (∀ p, p < 8 → J 163 p = bi (bt (I 65 3) p)) ∧ (∀ p t, p < 8 → t < 30 → bt (J 164 p) t = bt (I (dyI t) 3) p) ∧ (∀ p t, p < vlc I → t < 30 → bt (J 166 p) t = !bt (I (dyI t) 4) p)
theorem Cr_cong {I I2 J J2 : m_I} (hm : vm I ≤ 20) (h : Cr I J) (h1 : ∀ c d, okC c d → I2 c d = I c d) (h2 : ∀ a b, lvR (vm I) a b → J2 a b = J a b) (h3 : I2 65 3 = I 65 3) (h4 : ∀ t, t < 30 → I2 (dyI t) 3 = I (dyI t) 3 ∧ I2 (dyI t) 4 = I (dyI t) 4) (h5 : ∀ p, J2 163 p = J 163 p ∧ J2 164 p = J 164 p ∧ J2 166 p = J 166 p) : Cr I2 J2 := by
  have e1 : vm I2 = vm I := congrArg vN (h1 1 3 (by unfold okC; omega))
  have e2 : vlc I2 = vlc I := congrArg vN (h1 69 2 (by unfold okC; omega))
  refine ⟨fun a b hl => ?_, fun p hp => ?_, fun p t hp ht => ?_, fun p t hp ht => ?_⟩
  · rw [e1] at hl
    rw [h2 a b hl, h1 _ _ (mp_all hm hl).1]
    exact h.1 a b hl
  · rw [(h5 p).1, h3]
    exact h.2.1 p hp
  · rw [(h5 p).2.1, (h4 t ht).1]
    exact h.2.2.1 p t hp ht
  · rw [e2] at hp
    rw [(h5 p).2.2, (h4 t ht).2]
    exact h.2.2.2 p t hp ht
/-- one number told on both sides -/
theorem Cr_up {I J : m_I} (hm : vm I ≤ 20) (h : Cr I J) {a b c d : Nat} {x : Int32} (hl : lvR (vm I) a b) (e : mpR a b = (c, d)) (h1 : ¬ (c = 1 ∧ d = 3)) (h2 : ¬ (c = 69 ∧ d = 2)) : Cr (m_up2 I c d x) (m_up2 J a b x) := by
  have hall := mp_all hm hl
  rw [e] at hall
  obtain ⟨hok, -, -⟩ := hall
  dsimp only at hok
  have e1 : vm (m_up2 I c d x) = vm I := congrArg vN (m_up2_ne (fun z => h1 ⟨z.1.symm, z.2.symm⟩))
  have e2 : vlc (m_up2 I c d x) = vlc I := congrArg vN (m_up2_ne (fun z => h2 ⟨z.1.symm, z.2.symm⟩))
  have hla : a ≠ 163 ∧ a ≠ 164 ∧ a ≠ 166 := by unfold lvR at hl; omega
  refine ⟨fun a2 b2 hl2 => ?_, fun p hp => ?_, fun p t hp ht => ?_, fun p t hp ht => ?_⟩
  · rw [e1] at hl2
    by_cases z : a2 = a ∧ b2 = b
    · rw [z.1, z.2, m_up2_eq, e]
      exact m_up2_eq.symm
    · rw [m_up2_ne z, m_up2_ne (fun y => z (mp_inj hm hl2 hl (by rw [e]; exact y.1) (by rw [e]; exact y.2)))]
      exact h.1 a2 b2 hl2
  · rw [m_up2_ne (fun z => hla.1 z.1.symm), m_up2_ne (fun z => hok.2.2.2.2.1 ⟨z.1.symm, z.2.symm⟩)]
    exact h.2.1 p hp
  · rw [m_up2_ne (fun z => hla.2.1 z.1.symm), m_up2_ne (by unfold dyI; unfold okC at hok; omega)]
    exact h.2.2.1 p t hp ht
  · rw [e2] at hp
    rw [m_up2_ne (fun z => hla.2.2 z.1.symm), m_up2_ne (by unfold dyI; unfold okC at hok; omega)]
    exact h.2.2.2 p t hp ht
theorem Cr_cls {I I2 J : m_I} (hm : vm I ≤ 20) (h : Cr I J) (h1 : ∀ c d, c < 140 → c ≠ 4 → ¬ (75 ≤ c ∧ c ≤ 79) → ¬ (5 ≤ c ∧ c < 65 ∧ d = 10) → I2 c d = I c d) : Cr I2 J :=
  Cr_cong hm h (fun c d z => h1 c d z.1 z.2.1 z.2.2.1 z.2.2.2.1) (fun _ _ _ => rfl) (h1 _ _ (by decide) (by decide) (by decide) (by decide)) (fun t ht => ⟨h1 _ _ (by unfold dyI; omega) (by unfold dyI; omega) (by unfold dyI; omega) (by unfold dyI; omega), h1 _ _ (by unfold dyI; omega) (by unfold dyI; omega) (by unfold dyI; omega) (by unfold dyI; omega)⟩) (fun _ => ⟨rfl, rfl, rfl⟩)
theorem Cr_ref {I J J2 : m_I} (hm : vm I ≤ 20) (h : Cr I J) (h1 : ∀ a b, 143 ≤ a → a ≤ 172 → ¬ (a = 143 ∧ b = 0) → J2 a b = J a b) : Cr I J2 :=
  Cr_cong hm h (fun _ _ _ => rfl) (fun a b z => h1 a b (by unfold lvR at z; omega) (by unfold lvR at z; omega) (by unfold lvR at z; omega)) rfl (fun _ _ => ⟨rfl, rfl⟩) (fun p => ⟨h1 _ _ (by decide) (by decide) (by omega), h1 _ _ (by decide) (by decide) (by omega), h1 _ _ (by decide) (by decide) (by omega)⟩)
theorem Cr_smR {I J J2 : m_I} (hm : vm I ≤ 20) (h : Cr I J) (h1 : smR J J2) : Cr I J2 := Cr_ref hm h (fun a b z1 z2 _ => h1 a b (by omega))
theorem Cr_smC {I I2 J : m_I} (hm : vm I ≤ 20) (h : Cr I J) (h1 : smC I I2) : Cr I2 J := Cr_cls hm h (fun c d z1 z2 z3 z4 => h1 c d (by omega) (by omega))
theorem Cr.now {I J : m_I} (h : Cr I J) : J 143 1 = I 72 4 := h.1 143 1 (by unfold lvR; omega)
theorem Cr.lk {I J : m_I} (h : Cr I J) : J 143 2 = I 1 4 := h.1 143 2 (by unfold lvR; omega)
theorem Cr.m {I J : m_I} (h : Cr I J) : J 143 3 = I 1 3 := h.1 143 3 (by unfold lvR; omega)
theorem Cr.sm {I J : m_I} (h : Cr I J) : J 143 20 = I 73 0 := h.1 143 20 (by unfold lvR; omega)
theorem Cr.se {I J : m_I} (h : Cr I J) : J 143 21 = I 73 1 := h.1 143 21 (by unfold lvR; omega)
theorem Cr.pn {I J : m_I} (h : Cr I J) : J 143 22 = I 65 4 := h.1 143 22 (by unfold lvR; omega)
theorem Cr.lc {I J : m_I} (h : Cr I J) : J 143 28 = I 69 2 := h.1 143 28 (by unfold lvR; omega)
theorem Cr.st {I J : m_I} (h : Cr I J) {k : Nat} (hk : k < 20) : J 144 k = I 3 k := h.1 144 k (by unfold lvR; omega)
theorem Cr.nu {I J : m_I} (h : Cr I J) {s : Nat} (hs : s < 20) : J 145 s = I (scI s) 6 := h.1 145 s (by unfold lvR; omega)
theorem Cr.le {I J : m_I} (h : Cr I J) {s : Nat} (hs : s < 20) : J 146 s = I (scI s) 7 := h.1 146 s (by unfold lvR; omega)
theorem Cr.pl {I J : m_I} (h : Cr I J) {s : Nat} (hs : s < 20) : J 147 s = I (scI s) 0 := h.1 147 s (by unfold lvR; omega)
theorem Cr.bd {I J : m_I} (h : Cr I J) {s : Nat} (hs : s < 20) : J 148 s = I (scI s) 1 := h.1 148 s (by unfold lvR; omega)
theorem Cr.is {I J : m_I} (h : Cr I J) {s : Nat} (hs : s < 20) : J 149 s = I (scI s) 2 := h.1 149 s (by unfold lvR; omega)
theorem Cr.ei {I J : m_I} (h : Cr I J) {s : Nat} (hs : s < 20) : J 150 s = I (scI s) 3 := h.1 150 s (by unfold lvR; omega)
theorem Cr.pe {I J : m_I} (h : Cr I J) {s : Nat} (hs : s < 20) : J 151 s = I (scI s) 4 := h.1 151 s (by unfold lvR; omega)
theorem Cr.wa {I J : m_I} (h : Cr I J) {s t : Nat} (hs : s < vm I) (ht : t < 4) : J 152 (4 * s + t) = I (waI s) t := by
  have e := h.1 152 (4 * s + t) (by unfold lvR; omega)
  rw [e]
  show I (waI ((4 * s + t) / 4)) ((4 * s + t) % 4) = _
  rw [show (4 * s + t) / 4 = s by omega, show (4 * s + t) % 4 = t by omega]
theorem Cr.lv {I J : m_I} (h : Cr I J) {s t : Nat} (hs : s < vm I) (ht : t < 4) : J 153 (4 * s + t) = I (leI s) t := by
  have e := h.1 153 (4 * s + t) (by unfold lvR; omega)
  rw [e]
  show I (leI ((4 * s + t) / 4)) ((4 * s + t) % 4) = _
  rw [show (4 * s + t) / 4 = s by omega, show (4 * s + t) % 4 = t by omega]
theorem Cr.bh {I J : m_I} (h : Cr I J) {s : Nat} (hs : s < 20) : J 154 s = I (scI s) 5 := h.1 154 s (by unfold lvR; omega)
theorem Cr.om {I J : m_I} (h : Cr I J) {s : Nat} (hs : s < 20) : J 155 s = I (scI s) 11 := h.1 155 s (by unfold lvR; omega)
theorem Cr.sh {I J : m_I} (h : Cr I J) {s : Nat} (hs : s < 20) : J 156 s = I (scI s) 12 := h.1 156 s (by unfold lvR; omega)
theorem Cr.ow {I J : m_I} (h : Cr I J) {s : Nat} (hs : s < 20) : J 157 s = I (scI s) 13 := h.1 157 s (by unfold lvR; omega)
theorem Cr.la {I J : m_I} (h : Cr I J) {s : Nat} (hs : s < 20) : J 158 s = I (scI s) 14 := h.1 158 s (by unfold lvR; omega)
theorem Cr.dy {I J : m_I} (h : Cr I J) {s : Nat} (hs : s < vm I) : J 159 s = I (scI s) 15 := h.1 159 s (by unfold lvR; omega)
theorem Cr.de {I J : m_I} (h : Cr I J) {p : Nat} (hp : p < 8) : J 160 p = I 66 p := h.1 160 p (by unfold lvR; omega)
theorem Cr.ra {I J : m_I} (h : Cr I J) {p : Nat} (hp : p < 8) : J 161 p = I 67 p := h.1 161 p (by unfold lvR; omega)
theorem Cr.pr {I J : m_I} (h : Cr I J) {p : Nat} (hp : p < 8) : J 162 p = I 68 p := h.1 162 p (by unfold lvR; omega)
theorem Cr.ch {I J : m_I} (h : Cr I J) {p : Nat} (hp : p < 8) : J 163 p = bi (bt (I 65 3) p) := h.2.1 p hp
theorem Cr.il {I J : m_I} (h : Cr I J) {p t : Nat} (hp : p < 8) (ht : t < 30) : bt (J 164 p) t = bt (I (dyI t) 3) p := h.2.2.1 p t hp ht
theorem Cr.co {I J : m_I} (h : Cr I J) {p : Nat} (hp : p < 6) : J 165 p = I 70 p := h.1 165 p (by unfold lvR; omega)
theorem Cr.al {I J : m_I} (h : Cr I J) {p t : Nat} (hp : p < vlc I) (ht : t < 30) : bt (J 166 p) t = !bt (I (dyI t) 4) p := h.2.2.2 p t hp ht
theorem Cr.mv {I J : m_I} (h : Cr I J) {k : Nat} (hk : k < 36) : J 167 k = I 71 k := h.1 167 k (by unfold lvR; omega)
theorem Cr.s0 {I J : m_I} (h : Cr I J) {t : Nat} (ht : t < 30) : J 168 t = I (dyI t) 0 := h.1 168 t (by unfold lvR; omega)
theorem Cr.s1 {I J : m_I} (h : Cr I J) {t : Nat} (ht : t < 30) : J 169 t = I (dyI t) 1 := h.1 169 t (by unfold lvR; omega)
theorem Cr.s2 {I J : m_I} (h : Cr I J) {t : Nat} (ht : t < 30) : J 170 t = I (dyI t) 2 := h.1 170 t (by unfold lvR; omega)
theorem Cr.ro {I J : m_I} (h : Cr I J) {t j : Nat} (ht : t < 30) (hj : j < 8) : J 171 (8 * t + j) = I (rwI t) j := by
  have e := h.1 171 (8 * t + j) (by unfold lvR; omega)
  rw [e]
  show I (rwI ((8 * t + j) / 8)) ((8 * t + j) % 8) = _
  rw [show (8 * t + j) / 8 = t by omega, show (8 * t + j) % 8 = j by omega]
theorem Cr.mn {I J : m_I} (h : Cr I J) {t : Nat} (ht : t < 30) : J 172 t = I (dyI t) 6 := h.1 172 t (by unfold lvR; omega)
theorem Cr.dr {I J : m_I} (h : Cr I J) (hV : Vw I) {t : Nat} (ht : t < 30) : Dr J t (vn I t) (vw I t) := ⟨ht, (h.mn ht).trans (nI_vN _).symm, hV.2.1 t ht, fun j hj => ⟨(h.ro ht (by have := hV.2.1 t ht; omega)).trans (nI_vN _).symm, by have := (hV.2.2.1 t j ht hj).1; have := hV.1; omega⟩⟩
theorem Vw_w20 {I : m_I} (hV : Vw I) {t j : Nat} (ht : t < 30) (hj : j < vn I t) : vw I t j < 20 := by
  have := (hV.2.2.1 t j ht hj).1
  have := hV.1
  omega
theorem Cr.dq {I J : m_I} (h : Cr I J) (hV : Vw I) {t : Nat} (ht : t < 30) : Dq J t (vn I t) (vw I t) (vm I) := by
  have hm := hV.1
  refine ⟨h.dr hV ht, hm, fun j hj => ?_, fun i j hi hj e => hV.2.2.2.1 t i j ht hi hj e, fun s hs e => ?_⟩
  · obtain ⟨h1, h2⟩ := hV.2.2.1 t j ht hj
    exact ⟨h1, (h.dy h1).trans h2⟩
  · rw [h.dy hs] at e
    exact on_row hV hs ht e
theorem Cr.pq {I J : m_I} (h : Cr I J) (hV : Vw I) {t : Nat} (ht : t < 30) : ∀ j, j < vn I t → J 147 (vw I t j) = nI (vq I t j) ∧ vq I t j < 6 := fun j hj => ⟨(h.pl (Vw_w20 hV ht hj)).trans (nI_vN _).symm, hV.2.2.2.2.2 _ (hV.2.2.1 t j ht hj).1⟩
/-- a scene is put on, taken off on both sides -/
theorem Cr_sh {I J : m_I} (hm : vm I ≤ 20) (h : Cr I J) {t a n : Nat} (ht : t < 30) (hn : n < 8) : Cr (shI I (rwI t) a n) (shI J 171 (8 * t + a) (8 * t + n)) := by
  have e0 : ∀ c d, c ≠ rwI t → shI I (rwI t) a n c d = I c d := fun c d z => shI_ne z
  have e1 : vm (shI I (rwI t) a n) = vm I := congrArg vN (e0 _ _ (by unfold rwI; omega))
  have e2 : vlc (shI I (rwI t) a n) = vlc I := congrArg vN (e0 _ _ (by unfold rwI; omega))
  refine ⟨fun a2 b2 hl => ?_, fun p hp => ?_, fun p t2 hp ht2 => ?_, fun p t2 hp ht2 => ?_⟩
  · rw [e1] at hl
    by_cases z : a2 = 171
    · subst z
      have hb : b2 < 240 := by unfold lvR at hl; omega
      show shI J 171 (8 * t + a) (8 * t + n) 171 b2 = shI I (rwI t) a n (rwI (b2 / 8)) (b2 % 8)
      unfold shI
      by_cases y : 8 * t + a < b2 ∧ b2 ≤ 8 * t + n
      · have e3 : b2 / 8 = t := by omega
        rw [if_pos ⟨rfl, y⟩, e3, if_pos ⟨rfl, by omega⟩]
        rw [show b2 - 1 = 8 * t + (b2 % 8 - 1) by omega]
        exact h.ro ht (by omega)
      · rw [if_neg (fun x => y x.2)]
        have e4 : ¬ (rwI (b2 / 8) = rwI t ∧ a < b2 % 8 ∧ b2 % 8 ≤ n) := by
          unfold rwI
          omega
        rw [if_neg e4]
        exact h.1 171 b2 hl
    · rw [shI_ne z]
      have e5 : (mpR a2 b2).1 ≠ rwI t := fun y => z (by
        have := (mp_all hm hl).2.1
        rw [y] at this
        rw [← this]
        unfold imA rwI
        (repeat' split) <;> omega)
      rw [e0 _ _ e5]
      exact h.1 a2 b2 hl
  · rw [shI_ne (by decide), e0 _ _ (by unfold rwI; omega)]
    exact h.2.1 p hp
  · rw [shI_ne (by decide), e0 _ _ (by unfold rwI dyI; omega)]
    exact h.2.2.1 p t2 hp ht2
  · rw [e2] at hp
    rw [shI_ne (by decide), e0 _ _ (by unfold rwI dyI; omega)]
    exact h.2.2.2 p t2 hp ht2
theorem Cr_de {I J : m_I} (hm : vm I ≤ 20) (h : Cr I J) {t a n : Nat} (ht : t < 30) (hn : n ≤ 8) : Cr (deI I (rwI t) a n) (deI J 171 (8 * t + a) (8 * t + n)) := by
  have e0 : ∀ c d, c ≠ rwI t → deI I (rwI t) a n c d = I c d := fun c d z => deI_ne z
  have e1 : vm (deI I (rwI t) a n) = vm I := congrArg vN (e0 _ _ (by unfold rwI; omega))
  have e2 : vlc (deI I (rwI t) a n) = vlc I := congrArg vN (e0 _ _ (by unfold rwI; omega))
  refine ⟨fun a2 b2 hl => ?_, fun p hp => ?_, fun p t2 hp ht2 => ?_, fun p t2 hp ht2 => ?_⟩
  · rw [e1] at hl
    by_cases z : a2 = 171
    · subst z
      have hb : b2 < 240 := by unfold lvR at hl; omega
      show deI J 171 (8 * t + a) (8 * t + n) 171 b2 = deI I (rwI t) a n (rwI (b2 / 8)) (b2 % 8)
      unfold deI
      by_cases y : 8 * t + a ≤ b2 ∧ b2 + 1 < 8 * t + n
      · have e3 : b2 / 8 = t := by omega
        rw [if_pos ⟨rfl, y⟩, e3, if_pos ⟨rfl, by omega⟩]
        rw [show b2 + 1 = 8 * t + (b2 % 8 + 1) by omega]
        exact h.ro ht (by omega)
      · rw [if_neg (fun x => y x.2)]
        have e4 : ¬ (rwI (b2 / 8) = rwI t ∧ a ≤ b2 % 8 ∧ b2 % 8 + 1 < n) := by
          unfold rwI
          omega
        rw [if_neg e4]
        exact h.1 171 b2 hl
    · rw [deI_ne z]
      have e5 : (mpR a2 b2).1 ≠ rwI t := fun y => z (by
        have := (mp_all hm hl).2.1
        rw [y] at this
        rw [← this]
        unfold imA rwI
        (repeat' split) <;> omega)
      rw [e0 _ _ e5]
      exact h.1 a2 b2 hl
  · rw [deI_ne (by decide), e0 _ _ (by unfold rwI; omega)]
    exact h.2.1 p hp
  · rw [deI_ne (by decide), e0 _ _ (by unfold rwI dyI; omega)]
    exact h.2.2.1 p t2 hp ht2
  · rw [e2] at hp
    rw [deI_ne (by decide), e0 _ _ (by unfold rwI dyI; omega)]
    exact h.2.2.2 p t2 hp ht2
theorem Cr_put {I J : m_I} (hm : vm I ≤ 20) (h : Cr I J) {s t a n : Nat} (ht : t < 30) (hn : n < 8) (ha : a ≤ n) (hs : s < vm I) : Cr (puI I s t a n) (onR J s t a n) := by
  have h1 := Cr_sh (a := a) hm h ht hn
  have e1 : vm (shI I (rwI t) a n) = vm I := congrArg vN (shI_ne (by unfold rwI; omega))
  have h2 := Cr_up (x := nI s) (by rw [e1]; exact hm) h1 (a := 171) (b := 8 * t + a) (c := rwI t) (d := a) (by unfold lvR; omega) (by show (rwI ((8 * t + a) / 8), (8 * t + a) % 8) = _; rw [show (8 * t + a) / 8 = t by omega, show (8 * t + a) % 8 = a by omega]) (by unfold rwI; omega) (by unfold rwI; omega)
  have e2 : vm (m_up2 (shI I (rwI t) a n) (rwI t) a (nI s)) = vm I := (congrArg vN (m_up2_ne (by unfold rwI; omega))).trans e1
  have h3 := Cr_up (x := nI (n + 1)) (by rw [e2]; exact hm) h2 (a := 172) (b := t) (c := dyI t) (d := 6) (by unfold lvR; omega) rfl (by unfold dyI; omega) (by unfold dyI; omega)
  have e3 : vm (m_up2 (m_up2 (shI I (rwI t) a n) (rwI t) a (nI s)) (dyI t) 6 (nI (n + 1))) = vm I := (congrArg vN (m_up2_ne (by unfold dyI; omega))).trans e2
  exact Cr_up (x := nI t) (by rw [e3]; exact hm) h3 (a := 159) (b := s) (c := scI s) (d := 15) (by rw [e3]; unfold lvR; omega) rfl (by unfold scI; omega) (by unfold scI; omega)
theorem Cr_take {I J : m_I} (hm : vm I ≤ 20) (h : Cr I J) {s t a n : Nat} (ht : t < 30) (hn : n ≤ 8) (hs : s < vm I) : Cr (toI I s t a n) (ofR J s t a n) := by
  have h1 := Cr_de (a := a) hm h ht hn
  have e1 : vm (deI I (rwI t) a n) = vm I := congrArg vN (deI_ne (by unfold rwI; omega))
  have h3 := Cr_up (x := nI (n - 1)) (by rw [e1]; exact hm) h1 (a := 172) (b := t) (c := dyI t) (d := 6) (by unfold lvR; omega) rfl (by unfold dyI; omega) (by unfold dyI; omega)
  have e3 : vm (m_up2 (deI I (rwI t) a n) (dyI t) 6 (nI (n - 1))) = vm I := (congrArg vN (m_up2_ne (by unfold dyI; omega))).trans e1
  exact Cr_up (x := -1) (by rw [e3]; exact hm) h3 (a := 159) (b := s) (c := scI s) (d := 15) (by rw [e3]; unfold lvR; omega) rfl (by unfold scI; omega) (by unfold scI; omega)

