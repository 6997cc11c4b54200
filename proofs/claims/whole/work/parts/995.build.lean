-- NAME build
/-! the law's start: rules for a heap that grows thing by thing -/
abbrev m_Rf : Type := Nat → Nat → Option Nat
def hq (n : Nat) (I : m_I) (R : m_Rf) : m_H := (n, sh0, I, R, fun _ _ => 0)
/-- what isn't made is empty, and nothing leads there -/
def Zz (n : Nat) (I : m_I) (R : m_Rf) : Prop := (∀ i k, n ≤ i → I i k = 0 ∧ R i k = none) ∧ ∀ i k a, R i k = some a → a < n
theorem u2_ne {α : Type} {f : Nat → Nat → α} {i k a b : Nat} {x : α} (h : ¬ (a = i ∧ b = k)) : m_up2 f i k x a b = f a b := if_neg h
theorem u2_eq {α : Type} {f : Nat → Nat → α} {i k : Nat} {x : α} : m_up2 f i k x i k = x := if_pos ⟨rfl, rfl⟩
theorem Zz_mono {n m : Nat} {I : m_I} {R : m_Rf} (h : Zz n I R) (hn : n ≤ m) : Zz m I R := ⟨fun i k hi => h.1 i k (by omega), fun i k a e => Nat.lt_of_lt_of_le (h.2 i k a e) hn⟩
theorem Zz_r {n i k a : Nat} {I : m_I} {R : m_Rf} (h : Zz n I R) (hi : i < n) (ha : a < n) : Zz n I (m_up2 R i k (some a)) := by
  refine ⟨fun j b hj => ⟨(h.1 j b hj).1, ?_⟩, fun j b x e => ?_⟩
  · rw [u2_ne (by omega)]
    exact (h.1 j b hj).2
  · by_cases z : j = i ∧ b = k
    · rw [z.1, z.2, u2_eq] at e
      cases e
      exact ha
    · rw [u2_ne z] at e
      exact h.2 j b x e
theorem Zz_i {n i k : Nat} {x : Int32} {I : m_I} {R : m_Rf} (h : Zz n I R) (hi : i < n) : Zz n (m_up2 I i k x) R := by
  refine ⟨fun j b hj => ⟨?_, (h.1 j b hj).2⟩, h.2⟩
  rw [u2_ne (by omega)]
  exact (h.1 j b hj).1
theorem Zz_f {n i len : Nat} {x : Int32} {I : m_I} {R : m_Rf} (h : Zz n I R) (hi : i < n) : Zz n (flI I i len x) R := by
  refine ⟨fun j b hj => ⟨?_, (h.1 j b hj).2⟩, h.2⟩
  unfold flI
  rw [if_neg (by omega)]
  exact (h.1 j b hj).1
def lvc (n i : Nat) : Bool := decide (i < n) || decide (i = m_scr)
def lvb (n : Nat) : Option Value → Bool
  | some (.ref i) => lvc n i
  | _ => true
def lvA (n : Nat) (L : m_L) : Prop := L.all (lvb n) = true
theorem lvA_v {n : Nat} {v : Value} (h : lvb n (some v) = true) : m_vl1 n v := by
  intro j hj
  subst hj
  unfold lvb lvc at h
  rw [Bool.or_eq_true, decide_eq_true_iff, decide_eq_true_iff] at h
  exact h
theorem lvA_L {n : Nat} {L : m_L} (h : lvA n L) : ∀ (i : Nat) (v : Value), L[i]? = some (some v) → m_vl1 n v := fun _ _ hv => lvA_v (List.all_eq_true.mp h _ (List.mem_of_getElem? hv))
theorem lvA_S {n : Nat} {st : List Value} (h : lvA n (st.map some)) : ∀ v ∈ st, m_vl1 n v := fun v hv => lvA_v (List.all_eq_true.mp h _ (List.mem_map.mpr ⟨v, hv, rfl⟩))
theorem vl_nv {n : Nat} {v : Value} (hn : n < 1000) (h : m_vl1 n v) : m_nv n v := by
  intro e
  rcases h n e with z | z
  · exact Nat.lt_irrefl n z
  · have z2 : n = 100000 := z
    omega
theorem p_wf {n : Nat} {L : m_L} {st : List Value} {I : m_I} {R : m_Rf} (h : Zz n I R) (hn : n < 1000) (hL : lvA n L) (hS : lvA n (st.map some)) : m_wf n L st (hq n I R) :=
  ⟨rfl, by unfold m_scr; omega, fun i v hv => vl_nv hn (lvA_L hL i v hv), fun v hv => vl_nv hn (lvA_S hS v hv), fun i k _ e => Nat.lt_irrefl n (h.2 i k n e)⟩
theorem hq_new {n k len : Nat} {I : m_I} {R : m_Rf} (hs : sh0 n = (k, len)) (hz : Zz n I R) : m_new (hq n I R) k len = hq (n + 1) I R := by
  have e1 : m_nw sh0 n (k, len) = sh0 := by
    funext i
    unfold m_nw
    by_cases z : i = n
    · rw [if_pos z, z, hs]
    · rw [if_neg z]
  have e2 : m_nw I n (fun _ => 0) = I := by
    funext i
    unfold m_nw
    by_cases z : i = n
    · rw [if_pos z, z]
      funext j
      exact (hz.1 n j (Nat.le_refl _)).1.symm
    · rw [if_neg z]
  have e3 : m_nw R n (fun _ => none) = R := by
    funext i
    unfold m_nw
    by_cases z : i = n
    · rw [if_pos z, z]
      funext j
      exact (hz.1 n j (Nat.le_refl _)).2.symm
    · rw [if_neg z]
  have e4 : m_nw (fun (_ _ : Nat) => (0 : Int64)) n (fun _ => 0) = fun (_ _ : Nat) => (0 : Int64) := by
    funext i
    unfold m_nw
    by_cases z : i = n
    · rw [if_pos z]
    · rw [if_neg z]
  show (n + 1, m_nw sh0 n (k, len), m_nw I n (fun _ => 0), m_nw R n (fun _ => none), m_nw (fun (_ _ : Nat) => (0 : Int64)) n (fun _ => 0)) = _
  rw [e1, e2, e3, e4]
  rfl
theorem p_new {S : m_S} {B : m_B} {pc : Nat} {L : m_L} {st : List Value} {I : m_I} {R : m_Rf} {rc rs n idx ci : Nat} (N : Nat) (hd : decode B.1.2.1 pc = .ok (.new idx, 3)) (hz : Zz n I R) (hn : n < 1000) (hL : lvA n L) (hS : lvA n (st.map some)) (hf : m_NC B.1.1.cls idx ci) (hN : m_nf ci = N) (hs : sh0 n = (ci, 0)) (hrc : 1 ≤ rc) (hrs : N ≤ rs) (kk : Zz (n + 1) I R → m_W S B (pc + 3) L (.ref n :: st) (hq (n + 1) I R) (rc - 1) (rs - N)) : m_W S B pc L st (hq n I R) rc rs := by
  refine ms_new (rc1 := rc - 1) (rs1 := rs - N) hd (p_wf hz hn hL hS) hf (by omega) (by omega) ?_
  rw [hq_new hs hz]
  exact kk (Zz_mono hz (Nat.le_succ n))
theorem p_newI {S : m_S} {B : m_B} {pc : Nat} {L : m_L} {st : List Value} {I : m_I} {R : m_Rf} {rc rs n len : Nat} (hd : decode B.1.2.1 pc = .ok (.newarray .int, 2)) (hz : Zz n I R) (hn : n < 1000) (hL : lvA n L) (hS : lvA n (st.map some)) (hs : sh0 n = (100, len)) (hlen : len < 1000) (hrc : 1 ≤ rc) (hrs : len ≤ rs) (kk : Zz (n + 1) I R → m_W S B (pc + 2) L (.ref n :: st) (hq (n + 1) I R) (rc - 1) (rs - len)) : m_W S B pc L (.int (nI len) :: st) (hq n I R) rc rs := by
  refine ms_newI (rc1 := rc - 1) (rs1 := rs - len) hd (p_wf hz hn hL hS) ac1 hlen (by omega) (by omega) ?_
  rw [hq_new hs hz]
  exact kk (Zz_mono hz (Nat.le_succ n))
theorem p_newZ {S : m_S} {B : m_B} {pc : Nat} {L : m_L} {st : List Value} {I : m_I} {R : m_Rf} {rc rs n len : Nat} (hd : decode B.1.2.1 pc = .ok (.newarray .boolean, 2)) (hz : Zz n I R) (hn : n < 1000) (hL : lvA n L) (hS : lvA n (st.map some)) (hs : sh0 n = (101, len)) (hlen : len < 1000) (hrc : 1 ≤ rc) (hrs : len ≤ rs) (kk : Zz (n + 1) I R → m_W S B (pc + 2) L (.ref n :: st) (hq (n + 1) I R) (rc - 1) (rs - len)) : m_W S B pc L (.int (nI len) :: st) (hq n I R) rc rs := by
  refine ms_newZ (rc1 := rc - 1) (rs1 := rs - len) hd (p_wf hz hn hL hS) ac2 hlen (by omega) (by omega) ?_
  rw [hq_new hs hz]
  exact kk (Zz_mono hz (Nat.le_succ n))
theorem p_newJ {S : m_S} {B : m_B} {pc : Nat} {L : m_L} {st : List Value} {I : m_I} {R : m_Rf} {rc rs n len : Nat} (hd : decode B.1.2.1 pc = .ok (.newarray .long, 2)) (hz : Zz n I R) (hn : n < 1000) (hL : lvA n L) (hS : lvA n (st.map some)) (hs : sh0 n = (102, len)) (hlen : len < 1000) (hrc : 1 ≤ rc) (hrs : len ≤ rs) (kk : Zz (n + 1) I R → m_W S B (pc + 2) L (.ref n :: st) (hq (n + 1) I R) (rc - 1) (rs - len)) : m_W S B pc L (.int (nI len) :: st) (hq n I R) rc rs := by
  refine ms_newJ (rc1 := rc - 1) (rs1 := rs - len) hd (p_wf hz hn hL hS) ac3 hlen (by omega) (by omega) ?_
  rw [hq_new hs hz]
  exact kk (Zz_mono hz (Nat.le_succ n))
theorem p_newS {S : m_S} {B : m_B} {pc : Nat} {L : m_L} {st : List Value} {I : m_I} {R : m_Rf} {rc rs n idx len : Nat} (hd : decode B.1.2.1 pc = .ok (.anewarray idx, 3)) (hz : Zz n I R) (hn : n < 1000) (hL : lvA n L) (hS : lvA n (st.map some)) (hw : Cond.classLink B.1.1.cls idx RX8 ∈ lw_tbl ∧ Cond.arrayOver (.object RX8) ∈ lw_tbl) (hs : sh0 n = (103, len)) (hlen : len < 1000) (hrc : 1 ≤ rc) (hrs : len ≤ rs) (kk : Zz (n + 1) I R → m_W S B (pc + 3) L (.ref n :: st) (hq (n + 1) I R) (rc - 1) (rs - len)) : m_W S B pc L (.int (nI len) :: st) (hq n I R) rc rs := by
  refine ms_newS (rc1 := rc - 1) (rs1 := rs - len) hd (p_wf hz hn hL hS) hw.1 hw.2 hlen (by omega) (by omega) ?_
  rw [hq_new hs hz]
  exact kk (Zz_mono hz (Nat.le_succ n))
theorem p_newD {S : m_S} {B : m_B} {pc : Nat} {L : m_L} {st : List Value} {I : m_I} {R : m_Rf} {rc rs n idx len : Nat} (hd : decode B.1.2.1 pc = .ok (.anewarray idx, 3)) (hz : Zz n I R) (hn : n < 1000) (hL : lvA n L) (hS : lvA n (st.map some)) (hw : Cond.classLink B.1.1.cls idx RX3 ∈ lw_tbl ∧ Cond.arrayOver (.object RX3) ∈ lw_tbl) (hs : sh0 n = (104, len)) (hlen : len < 1000) (hrc : 1 ≤ rc) (hrs : len ≤ rs) (kk : Zz (n + 1) I R → m_W S B (pc + 3) L (.ref n :: st) (hq (n + 1) I R) (rc - 1) (rs - len)) : m_W S B pc L (.int (nI len) :: st) (hq n I R) rc rs := by
  refine ms_newD (rc1 := rc - 1) (rs1 := rs - len) hd (p_wf hz hn hL hS) hw.1 hw.2 hlen (by omega) (by omega) ?_
  rw [hq_new hs hz]
  exact kk (Zz_mono hz (Nat.le_succ n))
theorem p_putr {S : m_S} {B : m_B} {pc : Nat} {L : m_L} {st : List Value} {I : m_I} {R : m_Rf} {rc rs n idx ci k i j : Nat} (hd : decode B.1.2.1 pc = .ok (.putfield idx, 3)) (hf : m_FL B.1.1.cls idx ci k) (hp : m_FP B.1.1.cls ci k true) (hkd : m_kd ci k = 2) (hz : Zz n I R) (hi : i < n) (hs : sh0 i = (ci, 0)) (hj : j < n) (hini : B.1.1.name = "<init>") (kk : Zz n I (m_up2 R i k (some j)) → m_W S B (pc + 3) L st (hq n I (m_up2 R i k (some j))) rc rs) : m_W S B pc L (.ref j :: .ref i :: st) (hq n I R) rc rs := ms_putr hd hf hi (show (sh0 i).1 = ci by rw [hs]) hp hkd hini (kk (Zz_r hz hi hj))
theorem p_puti {S : m_S} {B : m_B} {pc : Nat} {L : m_L} {st : List Value} {I : m_I} {R : m_Rf} {rc rs n idx ci k i : Nat} {x : Int32} (hd : decode B.1.2.1 pc = .ok (.putfield idx, 3)) (hf : m_FL B.1.1.cls idx ci k) (hp : m_FP B.1.1.cls ci k false) (hkd : m_kd ci k = 0) (hz : Zz n I R) (hi : i < n) (hs : sh0 i = (ci, 0)) (kk : Zz n (m_up2 I i k x) R → m_W S B (pc + 3) L st (hq n (m_up2 I i k x) R) rc rs) : m_W S B pc L (.int x :: .ref i :: st) (hq n I R) rc rs := ms_puti hd hf hi (show (sh0 i).1 = ci by rw [hs]) hp hkd (kk (Zz_i hz hi))
theorem p_getr {S : m_S} {B : m_B} {pc : Nat} {L : m_L} {st : List Value} {I : m_I} {R : m_Rf} {rc rs n idx ci k i j : Nat} (hd : decode B.1.2.1 pc = .ok (.getfield idx, 3)) (hf : m_FL B.1.1.cls idx ci k) (hkd : m_kd ci k = 2) (hi : i < n) (hs : sh0 i = (ci, 0)) (hv : R i k = some j) (kk : m_W S B (pc + 3) L (.ref j :: st) (hq n I R) rc rs) : m_W S B pc L (.ref i :: st) (hq n I R) rc rs := ms_getr hd hf hi (show (sh0 i).1 = ci by rw [hs]) hkd hv kk
theorem p_iast {S : m_S} {B : m_B} {pc : Nat} {L : m_L} {st : List Value} {I : m_I} {R : m_Rf} {rc rs n i j len : Nat} {x : Int32} (hd : decode B.1.2.1 pc = .ok (.iastore, 1)) (hz : Zz n I R) (hi : i < n) (hs : sh0 i = (100, len)) (hj : j < len) (hlen : len < 1000) (kk : Zz n (m_up2 I i j x) R → m_W S B (pc + 1) L st (hq n (m_up2 I i j x) R) rc rs) : m_W S B pc L (.int x :: .int (nI j) :: .ref i :: st) (hq n I R) rc rs := by
  have e1 : ((hq n I R).2.1 i).1 = 100 := by show (sh0 i).1 = _; rw [hs]
  have e2 : ((hq n I R).2.1 i).2 = len := by show (sh0 i).2 = _; rw [hs]
  exact ms_iast hd hi e1 (by rw [e2]; exact hj) (by rw [e2]; omega) (kk (Zz_i hz hi))
theorem p_aast {S : m_S} {B : m_B} {pc : Nat} {L : m_L} {st : List Value} {I : m_I} {R : m_Rf} {rc rs n i j r kd len : Nat} (hd : decode B.1.2.1 pc = .ok (.aastore, 1)) (hz : Zz n I R) (hi : i < n) (hs : sh0 i = (kd, len)) (hk : kd = 103 ∧ sh0 r = (8, 0) ∨ kd = 104 ∧ sh0 r = (3, 0)) (hr : r < n) (hj : j < len) (hlen : len < 1000) (kk : Zz n I (m_up2 R i j (some r)) → m_W S B (pc + 1) L st (hq n I (m_up2 R i j (some r))) rc rs) : m_W S B pc L (.ref r :: .int (nI j) :: .ref i :: st) (hq n I R) rc rs := by
  have e1 : ((hq n I R).2.1 i).1 = kd := by show (sh0 i).1 = _; rw [hs]
  have e2 : ((hq n I R).2.1 i).2 = len := by show (sh0 i).2 = _; rw [hs]
  refine ms_aast hd hi ?_ hr (by rw [e2]; exact hj) (by rw [e2]; omega) (kk (Zz_r hz hi hr))
  rw [e1]
  show kd = 103 ∧ (sh0 r).1 = 8 ∨ kd = 104 ∧ (sh0 r).1 = 3
  rcases hk with ⟨h1, h2⟩ | ⟨h1, h2⟩
  · exact Or.inl ⟨h1, by rw [h2]⟩
  · exact Or.inr ⟨h1, by rw [h2]⟩
theorem p_fill {S : m_S} {B : m_B} {pc : Nat} {L : m_L} {st : List Value} {I : m_I} {R : m_Rf} {rc rs n idx d t len : Nat} {x : Int32} (hd : decode B.1.2.1 pc = .ok (.invokestatic idx, 3)) (hf : m_CS B.1.1.cls idx M_J7_fill_53178 2) (hd9 : d + 1 ≤ B.2.1) (hsum : (st.map fun v => v.category).sum ≤ 8) (hz : Zz n I R) (ht : t < n) (hs : sh0 t = (100, len)) (hlen : len < 1000) (kk : Zz n (flI I t len x) R → m_W S B (pc + 3) L st (hq n (flI I t len x) R) rc rs) : m_W S B pc L (.int x :: .ref t :: st) (hq n I R) rc rs := by
  have e := k_fillH (S := S) (h := hq n I R) (d := d) (t := t) (n := len) ht (show (sh0 t).1 = 100 by rw [hs]) (show (sh0 t).2 = len by rw [hs]) hlen x
  exact qRS2 hd hf hd9 rfl rfl (Nat.le_of_ble_eq_true rfl) hsum e rfl (kk (Zz_f hz ht))
theorem p_cI {S : m_S} {B : m_B} {pc : Nat} {L : m_L} {st : List Value} {I I2 : m_I} {R R2 : m_Rf} {rc rs rc2 rs2 n n2 idx na d b : Nat} {M : m_M} {As : List Value} (hd : decode B.1.2.1 pc = .ok (.invokespecial idx, 3)) (hf : m_CI B.1.1.cls idx M na) (hd9 : d + 1 ≤ B.2.1) (hwd : m_Wd (.ref b :: As) st M.2.2.1) (hna : As.length = na) (hc : m_RR S M d (.ref b :: As) (hq n I R) none (hq n2 I2 R2) rc2 rs2) (h1 : rc2 ≤ rc) (h2 : rs2 ≤ rs) (hL : lvA n L) (hS : lvA n (st.map some)) (kk : m_W S B (pc + 3) L st (hq n2 I2 R2) (rc - rc2) (rs - rs2)) : m_W S B pc L (As.reverse ++ .ref b :: st) (hq n I R) rc rs := by
  refine ms_callI hd hf hd9 hwd hna hc ⟨h1, h2, fun w g hw => ?_, fun _ _ z => z.elim⟩
  obtain ⟨rfl, rfl⟩ := hw
  exact ⟨Or.inr ⟨lvA_L hL, lvA_S hS⟩, kk⟩
theorem p_cJ {S : m_S} {B : m_B} {pc : Nat} {L : m_L} {st : List Value} {I I2 : m_I} {R R2 : m_Rf} {rc rs rc2 rs2 n n2 idx na d b : Nat} {M : m_M} {As : List Value} {host : String} (hd : decode B.1.2.1 pc = .ok (.invokespecial idx, 3)) (hf : m_CJ B.1.1.cls idx M na host) (hd9 : d + 1 ≤ B.2.1) (hwd : m_Wd (.ref b :: As) st M.2.2.1) (hna : As.length = na) (hc : m_RR S M d (.ref b :: As) (hq n I R) none (hq n2 I2 R2) rc2 rs2) (h1 : rc2 ≤ rc) (h2 : rs2 ≤ rs) (hL : lvA n L) (hS : lvA n (st.map some)) (kk : m_W S B (pc + 3) L st (hq n2 I2 R2) (rc - rc2) (rs - rs2)) : m_W S B pc L (As.reverse ++ .ref b :: st) (hq n I R) rc rs := by
  refine ms_callJ hd hf hd9 hwd hna hc ⟨h1, h2, fun w g hw => ?_, fun _ _ z => z.elim⟩
  obtain ⟨rfl, rfl⟩ := hw
  exact ⟨Or.inr ⟨lvA_L hL, lvA_S hS⟩, kk⟩
theorem p_cI0 {S : m_S} {B : m_B} {pc : Nat} {L : m_L} {st : List Value} {I I2 : m_I} {R R2 : m_Rf} {rc rs rc2 rs2 n n2 idx d b : Nat} {M : m_M} (hd : decode B.1.2.1 pc = .ok (.invokespecial idx, 3)) (hf : m_CI B.1.1.cls idx M 0) (hd9 : d + 1 ≤ B.2.1)  (hlen : 1 ≤ M.2.2.1) (hsum : (st.map fun v => v.category).sum ≤ 8) (hc : m_RR S M d [.ref b] (hq n I R) none (hq n2 I2 R2) rc2 rs2) (h1 : rc2 ≤ rc) (h2 : rs2 ≤ rs) (hL : lvA n L) (hS : lvA n (st.map some)) (kk : m_W S B (pc + 3) L st (hq n2 I2 R2) (rc - rc2) (rs - rs2)) : m_W S B pc L (.ref b :: st) (hq n I R) rc rs := p_cI (As := []) hd hf hd9 ⟨(fun v hv => by simp only [List.mem_cons, List.not_mem_nil, or_false] at hv; rcases hv with rfl <;> first | rfl | assumption), hlen, hsum⟩ rfl hc h1 h2 hL hS kk
theorem p_cI2 {S : m_S} {B : m_B} {pc : Nat} {L : m_L} {st : List Value} {I I2 : m_I} {R R2 : m_Rf} {rc rs rc2 rs2 n n2 idx d b : Nat} {M : m_M} {a0 a1 : Value} (hd : decode B.1.2.1 pc = .ok (.invokespecial idx, 3)) (hf : m_CI B.1.1.cls idx M 2) (hd9 : d + 1 ≤ B.2.1) (c0 : a0.category = 1) (c1 : a1.category = 1) (hlen : 3 ≤ M.2.2.1) (hsum : (st.map fun v => v.category).sum ≤ 8) (hc : m_RR S M d [.ref b, a0, a1] (hq n I R) none (hq n2 I2 R2) rc2 rs2) (h1 : rc2 ≤ rc) (h2 : rs2 ≤ rs) (hL : lvA n L) (hS : lvA n (st.map some)) (kk : m_W S B (pc + 3) L st (hq n2 I2 R2) (rc - rc2) (rs - rs2)) : m_W S B pc L (a1 :: a0 :: .ref b :: st) (hq n I R) rc rs := p_cI (As := [a0, a1]) hd hf hd9 ⟨(fun v hv => by simp only [List.mem_cons, List.not_mem_nil, or_false] at hv; rcases hv with rfl | rfl | rfl <;> first | rfl | assumption), hlen, hsum⟩ rfl hc h1 h2 hL hS kk
theorem p_cI3 {S : m_S} {B : m_B} {pc : Nat} {L : m_L} {st : List Value} {I I2 : m_I} {R R2 : m_Rf} {rc rs rc2 rs2 n n2 idx d b : Nat} {M : m_M} {a0 a1 a2 : Value} (hd : decode B.1.2.1 pc = .ok (.invokespecial idx, 3)) (hf : m_CI B.1.1.cls idx M 3) (hd9 : d + 1 ≤ B.2.1) (c0 : a0.category = 1) (c1 : a1.category = 1) (c2 : a2.category = 1) (hlen : 4 ≤ M.2.2.1) (hsum : (st.map fun v => v.category).sum ≤ 8) (hc : m_RR S M d [.ref b, a0, a1, a2] (hq n I R) none (hq n2 I2 R2) rc2 rs2) (h1 : rc2 ≤ rc) (h2 : rs2 ≤ rs) (hL : lvA n L) (hS : lvA n (st.map some)) (kk : m_W S B (pc + 3) L st (hq n2 I2 R2) (rc - rc2) (rs - rs2)) : m_W S B pc L (a2 :: a1 :: a0 :: .ref b :: st) (hq n I R) rc rs := p_cI (As := [a0, a1, a2]) hd hf hd9 ⟨(fun v hv => by simp only [List.mem_cons, List.not_mem_nil, or_false] at hv; rcases hv with rfl | rfl | rfl | rfl <;> first | rfl | assumption), hlen, hsum⟩ rfl hc h1 h2 hL hS kk
theorem p_cI4 {S : m_S} {B : m_B} {pc : Nat} {L : m_L} {st : List Value} {I I2 : m_I} {R R2 : m_Rf} {rc rs rc2 rs2 n n2 idx d b : Nat} {M : m_M} {a0 a1 a2 a3 : Value} (hd : decode B.1.2.1 pc = .ok (.invokespecial idx, 3)) (hf : m_CI B.1.1.cls idx M 4) (hd9 : d + 1 ≤ B.2.1) (c0 : a0.category = 1) (c1 : a1.category = 1) (c2 : a2.category = 1) (c3 : a3.category = 1) (hlen : 5 ≤ M.2.2.1) (hsum : (st.map fun v => v.category).sum ≤ 8) (hc : m_RR S M d [.ref b, a0, a1, a2, a3] (hq n I R) none (hq n2 I2 R2) rc2 rs2) (h1 : rc2 ≤ rc) (h2 : rs2 ≤ rs) (hL : lvA n L) (hS : lvA n (st.map some)) (kk : m_W S B (pc + 3) L st (hq n2 I2 R2) (rc - rc2) (rs - rs2)) : m_W S B pc L (a3 :: a2 :: a1 :: a0 :: .ref b :: st) (hq n I R) rc rs := p_cI (As := [a0, a1, a2, a3]) hd hf hd9 ⟨(fun v hv => by simp only [List.mem_cons, List.not_mem_nil, or_false] at hv; rcases hv with rfl | rfl | rfl | rfl | rfl <;> first | rfl | assumption), hlen, hsum⟩ rfl hc h1 h2 hL hS kk
theorem p_cJ0 {S : m_S} {B : m_B} {pc : Nat} {L : m_L} {st : List Value} {I I2 : m_I} {R R2 : m_Rf} {rc rs rc2 rs2 n n2 idx d b : Nat} {M : m_M} {host : String} (hd : decode B.1.2.1 pc = .ok (.invokespecial idx, 3)) (hf : m_CJ B.1.1.cls idx M 0 host) (hd9 : d + 1 ≤ B.2.1)  (hlen : 1 ≤ M.2.2.1) (hsum : (st.map fun v => v.category).sum ≤ 8) (hc : m_RR S M d [.ref b] (hq n I R) none (hq n2 I2 R2) rc2 rs2) (h1 : rc2 ≤ rc) (h2 : rs2 ≤ rs) (hL : lvA n L) (hS : lvA n (st.map some)) (kk : m_W S B (pc + 3) L st (hq n2 I2 R2) (rc - rc2) (rs - rs2)) : m_W S B pc L (.ref b :: st) (hq n I R) rc rs := p_cJ (As := []) hd hf hd9 ⟨(fun v hv => by simp only [List.mem_cons, List.not_mem_nil, or_false] at hv; rcases hv with rfl <;> first | rfl | assumption), hlen, hsum⟩ rfl hc h1 h2 hL hS kk

