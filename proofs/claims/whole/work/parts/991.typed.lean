-- NAME typed
/-! what a method hands back is of its kind -/
def tyv (M : m_M) (v : Option Value) : Prop := ((M.2.2.2.1 = some .int ∨ M.2.2.2.1 = some .boolean) → ∃ x, v = some (.int x)) ∧ (M.2.2.2.1 = none → v = none)
def tyP : m_P := fun B _ _ _ _ _ _ => (∃ v g, B.2.2.1 v g ∧ tyv B.1 v) ∨ ∃ E g, B.2.2.2 E g
theorem ty_af {B : m_B} {pc : Nat} {L L2 : m_L} {st st2 : List Value} {h g2 : m_H} {rc rs rc2 rs2 p2 a2 b2 d : Nat} {M : m_M} {K2 : Option Value → m_H → Prop} {KX2 : String → m_H → Prop} (k : tyP (M, d, K2, KX2) p2 L2 st2 g2 a2 b2) (haf : m_Af tyP B pc L st h rc rs rc2 rs2 K2 KX2) : (∃ v g, B.2.2.1 v g ∧ tyv B.1 v) ∨ ∃ E g, B.2.2.2 E g := by
  rcases k with ⟨v, g, hk, -⟩ | ⟨E, g, hk⟩
  · exact (haf.2.2.1 v g hk).2
  · obtain ⟨-, z⟩ := haf.2.2.2 E g hk
    rcases z with ⟨-, z⟩ | ⟨cn, hd, z⟩
    · exact Or.inr ⟨E, g, z⟩
    · refine Or.inl ⟨_, g, z, fun _ => ⟨cn, rfl⟩, fun y => ?_⟩
      obtain ⟨pre, suf, x, name, i, len, k, e1, e2, e3, e4, e5, e6, e7, e8, e9, e10, e11, e12⟩ := hd
      rw [e12] at y
      cases y
theorem ty_none {M : m_M} (h : M.2.2.2.1 = none) : tyv M none := by
  refine ⟨fun y => ?_, fun _ => rfl⟩
  rcases y with y | y
  · exact absurd (h.symm.trans y) (fun z => by cases z)
  · exact absurd (h.symm.trans y) (fun z => by cases z)
theorem ty_obj {M : m_M} {v : Option Value} {nm : String} (h : M.2.2.2.1 = some (.object nm)) : tyv M v := by
  refine ⟨fun y => ?_, fun y => ?_⟩
  · rcases y with y | y
    · exact absurd (h.symm.trans y) (fun z => by cases z)
    · exact absurd (h.symm.trans y) (fun z => by cases z)
  · exact absurd (h.symm.trans y) (fun z => by cases z)
theorem ty_C (S : m_S) : m_C S tyP := by
  unfold m_C
  repeat' apply And.intro
  all_goals intro B
  all_goals first
    | (intros; rename_i kk; exact kk)
    | (intros; rename_i k1 k2; exact (Classical.em _).elim k1 k2)
    | (intros; rename_i k1 k2; exact (Classical.em _).elim k2 k1)
    | (intros; rename_i k1 k2; exact ty_af k1 k2)
    | (intros; rename_i hr2 hst hk; exact Or.inl ⟨_, _, hk, fun _ => ⟨_, rfl⟩, fun y => by rw [hr2] at y; cases y⟩)
    | (intros; rename_i hr2 hst hz hk; exact Or.inl ⟨_, _, hk, fun _ => ⟨_, rfl⟩, fun y => by rw [hr2] at y; cases y⟩)
    | (intros; rename_i hr2 hst hk; exact Or.inl ⟨_, _, hk, ty_none hr2⟩)
    | (intros; rename_i hr2 hst hk; exact Or.inl ⟨_, _, hk, ty_obj hr2⟩)
    | (intros; exact Or.inr ⟨_, _, by assumption⟩)
theorem m_R_ty {S : m_S} {M : m_M} {d : Nat} {vs : List Value} {h h2 : m_H} {v : Option Value} (k : m_R S M d vs h v h2) : tyv M v := by
  rcases k tyP (ty_C S) with ⟨w, g, z1, z⟩ | ⟨E, g, z⟩
  · rw [← z1.1]
    exact z
  · exact z.elim
/-- .. with room for a throw -/
def m_RR (S : m_S) (M : m_M) (d : Nat) (vs : List Value) (h : m_H) (v : Option Value) (h2 : m_H) (rc rs : Nat) : Prop := m_W S (M, d, fun w g => w = v ∧ g = h2, fun _ _ => False) 0 (m_L0 M.2.2.1 vs) [] h rc rs
theorem qY {S : m_S} {B : m_B} {pc : Nat} {L : m_L} {st : List Value} {h : m_H} {rc rs : Nat} {idx n d rc2 rs2 : Nat} {M : m_M} {As : List Value} {h2 : m_H} {v : Option Value} (hd : decode B.1.2.1 pc = .ok (.invokestatic idx, 3)) (hf : m_CX B.1.1.cls idx M n) (hd9 : d + 1 ≤ B.2.1) (hwd : m_Wd As st M.2.2.1) (hn : As.length = n) (hc : m_RR S M d As h v h2 rc2 rs2) (h1 : rc2 ≤ rc) (h3 : rs2 ≤ rs) (hh2 : h2.1 = h.1) (kk : m_W S B (pc + 3) L (v.toList ++ st) h2 (rc - rc2) (rs - rs2)) : m_W S B pc L (As.reverse ++ st) h rc rs := by
  refine ms_callX hd hf hd9 hwd hn hc ⟨h1, h3, fun w g hw => ?_, fun _ _ z => z.elim⟩
  obtain ⟨rfl, rfl⟩ := hw
  exact ⟨Or.inl hh2, kk⟩
theorem hh_upL {I : m_I} {lg x : Int64} : m_upL (hh I lg) 177 0 x = hh I x := by
  unfold m_upL hh
  refine congrArg (fun z => (178, sh0, I, rf0, z)) ?_
  funext a b
  unfold m_up2
  dsimp only
  by_cases z : a = 177 ∧ b = 0
  · rw [if_pos z, if_pos z]
  · rw [if_neg z, if_neg z, if_neg z]
theorem q_last {S : m_S} {B : m_B} {pc : Nat} {L : m_L} {st : List Value} {I : m_I} {lg x : Int64} {rc rs : Nat} (hd : decode B.1.2.1 pc = .ok (.lastore, 1)) (kk : m_W S B (pc + 1) L st (hh I x) rc rs) : m_W S B pc L (.long x :: .int (nI 0) :: .ref 177 :: st) (hh I lg) rc rs := by
  refine ms_last hd (show 177 < 178 by decide) (show (sh0 177).1 = 102 by decide) (show 0 < (sh0 177).2 by decide) (show (sh0 177).2 < 2 ^ 31 by decide) ?_
  rw [hh_upL]
  exact kk
theorem q_lald {S : m_S} {B : m_B} {pc : Nat} {L : m_L} {st : List Value} {I : m_I} {lg : Int64} {rc rs : Nat} (hd : decode B.1.2.1 pc = .ok (.laload, 1)) (kk : m_W S B (pc + 1) L (.long lg :: st) (hh I lg) rc rs) : m_W S B pc L (.int (nI 0) :: .ref 177 :: st) (hh I lg) rc rs := by
  refine ms_lald hd (show 177 < 178 by decide) (show (sh0 177).1 = 102 by decide) (show 0 < (sh0 177).2 by decide) (show (sh0 177).2 < 2 ^ 31 by decide) ?_
  show m_W S B (pc + 1) L (.long (if 177 = 177 ∧ 0 = 0 then lg else 0) :: st) (hh I lg) rc rs
  rw [if_pos ⟨rfl, rfl⟩]
  exact kk
/-- what a call of the law comes to: its own answer, the reference's, the number kept -/
def Lok (S : m_S) (c : Nat) (I : m_I) (lg : Int64) (ML Mr : m_M) (A Ar : List Value) (f : Int32 → Int64) : Prop := ∃ (z : Nat) (y : Int32) (lg1 : Int64) (I1 I2 : m_I), z < 4 ∧ (∀ d, 10 ≤ d → m_RR S ML d (A ++ [.ref 177]) (hh I lg) (some (.int (nI z))) (hh I1 lg1) 1 6) ∧ (∀ d, 9 ≤ d → m_R S Mr d Ar (hh I1 lg1) (some (.int y)) (hh I2 lg1)) ∧ I2 143 0 = nI z ∧ (z = 0 → lg1 = f y) ∧ Iv (c + 1) I2 ∧ Cr I2 I2
theorem Lok_of {S : m_S} {c : Nat} {I : m_I} (lg : Int64) {Mc ML Mr : m_M} {A Ar : List Value} {Es : List String} (f : Int32 → Int64) (hO : Okc S c I Mc Mr A Ar Es) (hok : ∀ I1 r d, 10 ≤ d → m_R S Mc (d - 1) A (hh I lg) (some (.int r)) (hh I1 lg) → m_RR S ML d (A ++ [.ref 177]) (hh I lg) (some (.int (nI 0))) (hh I1 (f r)) 1 6) (hthr : ∀ k E d, 10 ≤ d → Es[k]? = some E → m_T S Mc (d - 1) A (hh I lg) E → m_RR S ML d (A ++ [.ref 177]) (hh I lg) (some (.int (nI (k + 1)))) (hh I lg) 1 6) (hEs : Es.length ≤ 3) (ht : Mr.2.2.2.1 = some .int ∨ Mr.2.2.2.1 = some .boolean) : Lok S c I lg ML Mr A Ar f := by
  rcases hO with ⟨r, I1, I2, h1, h2, h3, h4, h5⟩ | ⟨k, E, b, I2, h0, h1, h2, h3, h4, h5⟩
  · obtain ⟨x, rfl⟩ := (m_R_ty (h2 lg 9 (Nat.le_refl _))).1 ht
    exact ⟨0, x, f x, I1, I2, by decide, fun d hd => hok I1 x d hd (h1 lg (d - 1) (by omega)), fun d hd => h2 _ d hd, h3, fun _ => rfl, h4, h5⟩
  · obtain ⟨x, rfl⟩ := (m_R_ty (h2 lg 9 (Nat.le_refl _))).1 ht
    have hk : k < Es.length := (List.getElem?_eq_some_iff.mp h0).1
    exact ⟨k + 1, x, lg, I, I2, by omega, fun d hd => hthr k E d hd h0 (h1 lg (d - 1) (by omega)), fun d hd => h2 _ d hd, h3, fun z => absurd z (Nat.succ_ne_zero k), h4, h5⟩

