/-- the script: its length, its ints -/
abbrev m_S : Type := Nat × (Nat → Int32)
section RULES3
variable {l : Launch} {D : va_G} {b0 L0 : Nat} {xs : Nat → Int32}
def r_sld (S : m_S) (P : m_P) : Prop := ∀ (B : m_B) (pc : Nat) (L : m_L) (st : List Value) (h : m_H) (rc rs : Nat) (j : Nat), decode B.1.2.1 pc = .ok (.iaload, 1) → B.1.1 = yL_law → j < S.1 → S.1 < 2 ^ 31 → P B (pc + 1) L (.int (S.2 j) :: st) h rc rs → P B pc L (.int (nI j) :: .ref m_scr :: st) h rc rs
theorem g_sld : r_sld (L0, xs) (m_G l D b0 L0 xs) := by
  intro B pc L st h rc rs j hd hy hj hjn kk p e s m args below meth c R A H locs cells slots ls ad ca n0 ad0 ca0 hc h1 h2 ha hs hM hS hl
  obtain ⟨hx, hb, hml, hr, hlk, hown, htb, hin, hE, hK, hRf, hRl, hA⟩ := id hc
  obtain ⟨hX, hbl, hbA, hsa⟩ := hs hy
  have hcl : (nI j).toNatClampNeg = j := nI_clamp (by omega)
  refine W.eq (g2 := F0 m pc ls (.int (nI j) :: .ref b0 :: st.map (m_tv ad))) (by rw [← hsa]; rfl) ?_
  refine va_sld hx hb hX hbl hbA hS (vp_in_nI hj hjn) hd ?_
  rw [hcl]
  exact kk p e s m args below meth c R A H locs cells slots ls ad ca n0 ad0 ca0 hc h1 h2 ha hs hM hS hl
def r_slen (S : m_S) (P : m_P) : Prop := ∀ (B : m_B) (pc : Nat) (L : m_L) (st : List Value) (h : m_H) (rc rs : Nat), decode B.1.2.1 pc = .ok (.arraylength, 1) → B.1.1 = yL_law → P B (pc + 1) L (.int (Int32.ofNat S.1) :: st) h rc rs → P B pc L (.ref m_scr :: st) h rc rs
theorem g_slen : r_slen (L0, xs) (m_G l D b0 L0 xs) := by
  intro B pc L st h rc rs  hd hy kk p e s m args below meth c R A H locs cells slots ls ad ca n0 ad0 ca0 hc h1 h2 ha hs hM hS hl
  obtain ⟨hx, hb, hml, hr, hlk, hown, htb, hin, hE, hK, hRf, hRl, hA⟩ := id hc
  obtain ⟨hX, hbl, hbA, hsa⟩ := hs hy
  refine W.eq (g2 := F0 m pc ls (.ref b0 :: st.map (m_tv ad))) (by rw [← hsa]; rfl) ?_
  exact va_slen hx hb hX hbl hbA hS hd (kk p e s m args below meth c R A H locs cells slots ls ad ca n0 ad0 ca0 hc h1 h2 ha hs hM hS hl)
/-- no value names the thing that is made next -/
def m_nv (n : Nat) (v : Value) : Prop := v ≠ .ref n
def m_wf (n : Nat) (L : m_L) (st : List Value) (h : m_H) : Prop := h.1 = n ∧ n < m_scr ∧ (∀ (i : Nat) (v : Value), L[i]? = some (some v) → m_nv n v) ∧ (∀ v ∈ st, m_nv n v) ∧ ∀ i k, i < n → h.2.2.2.1 i k ≠ some n
def m_nw {α : Type} (f : Nat → α) (n : Nat) (x : α) : Nat → α := fun i => if i = n then x else f i
def m_new (h : m_H) (k len : Nat) : m_H := (h.1 + 1, m_nw h.2.1 h.1 (k, len), m_nw h.2.2.1 h.1 (fun _ => 0), m_nw h.2.2.2.1 h.1 (fun _ => none), m_nw h.2.2.2.2 h.1 (fun _ => 0))
theorem m_nw_ne {α : Type} {f : Nat → α} {n i : Nat} {x : α} (h : i ≠ n) : m_nw f n x i = f i := if_neg h
theorem m_nw_eq {α : Type} {f : Nat → α} {n : Nat} {x : α} : m_nw f n x n = x := if_pos rfl
theorem m_tv_nw {ad : Nat → Nat} {n q : Nat} {v : Value} (h : m_nv n v) : m_tv (m_nw ad n q) v = m_tv ad v := by
  cases v <;> try rfl
  next i =>
    have hi : i ≠ n := fun e => h (by rw [e])
    simp only [m_tv, m_nw_ne hi]
theorem m_st_nw {ad : Nat → Nat} {n q : Nat} {st : List Value} (h : ∀ v ∈ st, m_nv n v) : st.map (m_tv (m_nw ad n q)) = st.map (m_tv ad) := List.map_congr_left (fun v hv => m_tv_nw (h v hv))
theorem m_loc_nw {ad : Nat → Nat} {n q nL : Nat} {L : m_L} {ls : Array Slot} (h : ∀ (i : Nat) (v : Value), L[i]? = some (some v) → m_nv n v) (hl : m_loc ad nL L ls) : m_loc (m_nw ad n q) nL L ls := ⟨hl.1, hl.2.1, hl.2.2.1, fun i v hv => by rw [m_tv_nw (h i v hv)]; exact hl.2.2.2 i v hv⟩
theorem m_opt_nw {ad : Nat → Nat} {n q : Nat} {r : Option Nat} (h : r ≠ some n) : r.map (m_nw ad n q) = r.map ad := by
  cases r with
  | none => rfl
  | some i => simp only [Option.map_some, m_nw_ne (fun e : i = n => h (by rw [e]))]
theorem m_ws_new {ad : Nat → Nat} {ca : Nat → ClassId} {h : m_H} {k len q : Nat} {cA : ClassId} (hR : ∀ i j, i < h.1 → h.2.2.2.1 i j ≠ some h.1) :
    m_ws (m_nw ad h.1 q) (m_nw ca h.1 cA) (m_new h k len) = m_ws ad ca h ++ [(q, m_cell (m_nw ad h.1 q) (m_nw ca h.1 cA) (m_new h k len) h.1)] := by
  unfold m_ws
  show (List.range (h.1 + 1)).map _ = _
  rw [List.range_succ, List.map_append]
  congr 1
  · refine List.map_congr_left (fun i hi => ?_)
    have hlt := List.mem_range.mp hi
    have hne : i ≠ h.1 := by omega
    rw [m_nw_ne hne]
    congr 1
    have e1 : (m_new h k len).2.1 i = h.2.1 i := m_nw_ne hne
    have e2 : (m_new h k len).2.2.1 i = h.2.2.1 i := m_nw_ne hne
    have e3 : (m_new h k len).2.2.2.1 i = h.2.2.2.1 i := m_nw_ne hne
    have e4 : (m_new h k len).2.2.2.2 i = h.2.2.2.2 i := m_nw_ne hne
    have e5 : m_nw ca h.1 cA i = ca i := m_nw_ne hne
    have e6 : ∀ j, ((h.2.2.2.1 i j).map (m_nw ad h.1 q)) = (h.2.2.2.1 i j).map ad := fun j => m_opt_nw (hR i j hlt)
    unfold m_cell m_fs
    rw [e1, e2, e3, e4, e5]
    simp only [e6]
  · simp [m_nw_eq]
theorem m_Ag_new {n0 : Nat} {ad0 : Nat → Nat} {ca0 : Nat → ClassId} {h : m_H} {ad : Nat → Nat} {ca : Nat → ClassId} {k len q : Nat} {cA : ClassId} (ha : m_Ag n0 ad0 ca0 h ad ca) (hn : h.1 < m_scr) : m_Ag n0 ad0 ca0 (m_new h k len) (m_nw ad h.1 q) (m_nw ca h.1 cA) := by
  obtain ⟨a1, a2, a3⟩ := ha
  refine ⟨Nat.le_succ_of_le a1, fun i hi => ?_, fun e => ?_⟩
  · have hne : i ≠ h.1 := by rcases hi with hi | hi <;> omega
    rw [m_nw_ne hne, m_nw_ne hne]
    exact a2 i hi
  · have e' : h.1 + 1 = n0 := e
    omega
theorem m_K_new {D : va_G} {ca : Nat → ClassId} {h : m_H} {k len : Nat} {cA : ClassId} {s : State} (hM : ∀ i, i < h.1 → 100 ≤ (h.2.1 i).1 → va_K D vwCl [(ca i, m_ty (h.2.1 i).1)] s) (hn : 100 ≤ k → va_K D vwCl [(cA, m_ty k)] s) :
    ∀ i, i < (m_new h k len).1 → 100 ≤ ((m_new h k len).2.1 i).1 → va_K D vwCl [(m_nw ca h.1 cA i, m_ty ((m_new h k len).2.1 i).1)] s := by
  intro i hi hk
  by_cases he : i = h.1
  · subst he
    have e1 : (m_new h k len).2.1 h.1 = (k, len) := m_nw_eq
    rw [e1] at hk ⊢
    rw [m_nw_eq]
    exact hn hk
  · have e1 : (m_new h k len).2.1 i = h.2.1 i := m_nw_ne he
    rw [e1] at hk ⊢
    rw [m_nw_ne he]
    exact hM i (by have : i < h.1 + 1 := hi; omega) hk
def r_newI (P : m_P) : Prop := ∀ (B : m_B) (pc : Nat) (L : m_L) (st : List Value) (h : m_H) (rc rs : Nat) (n len rc1 rs1 : Nat), decode B.1.2.1 pc = .ok (.newarray .int, 2) → m_wf n L st h → Cond.arrayClass .int ∈ lw_tbl → len < 1000 → rc = rc1 + 1 → rs = rs1 + len → P B (pc + 2) L (.ref n :: st) (m_new h 100 len) rc1 rs1 → P B pc L (.int (nI len) :: st) h rc rs
theorem g_newI : r_newI (m_G l D b0 L0 xs) := by
  intro B pc L st h rc rs n len rc1 rs1 hd hwf hw hlen hrc hrs kk p e s m args below meth c R A H locs cells slots ls ad ca n0 ad0 ca0 hc h1 h2 ha hs hM hS hl
  obtain ⟨hx, hb, hml, hr, hlk, hown, htb, hin, hE, hK, hRf, hRl, hA⟩ := id hc
  obtain ⟨hn, hns, hwL, hwS, hwR⟩ := hwf
  subst hrc; subst hrs
  refine va_newa (atype := .int) (ty := .int) (N' := len) (a0 := (len, .inl (fun _ => 0))) hx hb (hE.1 _ hw rfl _) rfl hK hM.1 hM.2.1 hS hA (fun cA => rfl) (nI_pos (by omega)) (nI_clamp (by omega)) (by show len * _ ≤ _; exact Nat.le_trans (Nat.mul_le_mul (Nat.le_of_lt hlen) (show componentBytes .int ≤ 8 by decide)) (by decide)) (by omega) (by omega) hd (fun q cA H1 hK1 hP1 hD1 hS1 => ?_)
  have hA2 := m_Ag_new (k := 100) (len := len) (q := q) (cA := cA) ha (by rw [hn]; exact hns)
  have hW2 := m_ws_new (ad := ad) (ca := ca) (h := h) (k := 100) (len := len) (q := q) (cA := cA) (by rw [hn]; exact hwR)
  rw [show m_cell (m_nw ad h.1 q) (m_nw ca h.1 cA) (m_new h 100 len) h.1 = .inl (cA, len, .inl (fun _ => 0)) by unfold m_cell; simp [m_new, m_nw_eq]] at hW2
  rw [← hW2] at hP1 hD1
  have hl2 := m_loc_nw (q := q) hwL hl
  have hst2 := m_st_nw (ad := ad) (q := q) hwS
  subst hn
  refine W.eq (g2 := F0 m (pc + 2) ls ((Value.ref h.1 :: st).map (m_tv (m_nw ad h.1 q)))) (by rw [List.map_cons, hst2]; show _ = F0 m _ ls (Value.ref (m_nw ad h.1 q h.1) :: _); rw [m_nw_eq]) ?_
  exact kk p e s m args below meth c R A H1 locs (cells + 1) (slots + len) ls (m_nw ad h.1 q) (m_nw ca h.1 cA) n0 ad0 ca0 hc (by omega) (by omega) hA2 (fun z => by obtain ⟨y1, y2, y3, y4⟩ := hs z; exact ⟨y1, y2, y3, by rw [m_nw_ne (by omega)]; exact y4⟩) ⟨hP1, hD1, m_K_new hM.2.2 (fun _ => hK1)⟩ hS1 hl2
def r_newZ (P : m_P) : Prop := ∀ (B : m_B) (pc : Nat) (L : m_L) (st : List Value) (h : m_H) (rc rs : Nat) (n len rc1 rs1 : Nat), decode B.1.2.1 pc = .ok (.newarray .boolean, 2) → m_wf n L st h → Cond.arrayClass .boolean ∈ lw_tbl → len < 1000 → rc = rc1 + 1 → rs = rs1 + len → P B (pc + 2) L (.ref n :: st) (m_new h 101 len) rc1 rs1 → P B pc L (.int (nI len) :: st) h rc rs
theorem g_newZ : r_newZ (m_G l D b0 L0 xs) := by
  intro B pc L st h rc rs n len rc1 rs1 hd hwf hw hlen hrc hrs kk p e s m args below meth c R A H locs cells slots ls ad ca n0 ad0 ca0 hc h1 h2 ha hs hM hS hl
  obtain ⟨hx, hb, hml, hr, hlk, hown, htb, hin, hE, hK, hRf, hRl, hA⟩ := id hc
  obtain ⟨hn, hns, hwL, hwS, hwR⟩ := hwf
  subst hrc; subst hrs
  refine va_newa (atype := .boolean) (ty := .boolean) (N' := len) (a0 := (len, .inl (fun _ => 0))) hx hb (hE.1 _ hw rfl _) rfl hK hM.1 hM.2.1 hS hA (fun cA => rfl) (nI_pos (by omega)) (nI_clamp (by omega)) (by show len * _ ≤ _; exact Nat.le_trans (Nat.mul_le_mul (Nat.le_of_lt hlen) (show componentBytes .boolean ≤ 8 by decide)) (by decide)) (by omega) (by omega) hd (fun q cA H1 hK1 hP1 hD1 hS1 => ?_)
  have hA2 := m_Ag_new (k := 101) (len := len) (q := q) (cA := cA) ha (by rw [hn]; exact hns)
  have hW2 := m_ws_new (ad := ad) (ca := ca) (h := h) (k := 101) (len := len) (q := q) (cA := cA) (by rw [hn]; exact hwR)
  rw [show m_cell (m_nw ad h.1 q) (m_nw ca h.1 cA) (m_new h 101 len) h.1 = .inl (cA, len, .inl (fun _ => 0)) by unfold m_cell; simp [m_new, m_nw_eq]] at hW2
  rw [← hW2] at hP1 hD1
  have hl2 := m_loc_nw (q := q) hwL hl
  have hst2 := m_st_nw (ad := ad) (q := q) hwS
  subst hn
  refine W.eq (g2 := F0 m (pc + 2) ls ((Value.ref h.1 :: st).map (m_tv (m_nw ad h.1 q)))) (by rw [List.map_cons, hst2]; show _ = F0 m _ ls (Value.ref (m_nw ad h.1 q h.1) :: _); rw [m_nw_eq]) ?_
  exact kk p e s m args below meth c R A H1 locs (cells + 1) (slots + len) ls (m_nw ad h.1 q) (m_nw ca h.1 cA) n0 ad0 ca0 hc (by omega) (by omega) hA2 (fun z => by obtain ⟨y1, y2, y3, y4⟩ := hs z; exact ⟨y1, y2, y3, by rw [m_nw_ne (by omega)]; exact y4⟩) ⟨hP1, hD1, m_K_new hM.2.2 (fun _ => hK1)⟩ hS1 hl2
def r_newJ (P : m_P) : Prop := ∀ (B : m_B) (pc : Nat) (L : m_L) (st : List Value) (h : m_H) (rc rs : Nat) (n len rc1 rs1 : Nat), decode B.1.2.1 pc = .ok (.newarray .long, 2) → m_wf n L st h → Cond.arrayClass .long ∈ lw_tbl → len < 1000 → rc = rc1 + 1 → rs = rs1 + len → P B (pc + 2) L (.ref n :: st) (m_new h 102 len) rc1 rs1 → P B pc L (.int (nI len) :: st) h rc rs
theorem g_newJ : r_newJ (m_G l D b0 L0 xs) := by
  intro B pc L st h rc rs n len rc1 rs1 hd hwf hw hlen hrc hrs kk p e s m args below meth c R A H locs cells slots ls ad ca n0 ad0 ca0 hc h1 h2 ha hs hM hS hl
  obtain ⟨hx, hb, hml, hr, hlk, hown, htb, hin, hE, hK, hRf, hRl, hA⟩ := id hc
  obtain ⟨hn, hns, hwL, hwS, hwR⟩ := hwf
  subst hrc; subst hrs
  refine va_newa (atype := .long) (ty := .long) (N' := len) (a0 := (len, .inr (.inl (fun _ => 0)))) hx hb (hE.1 _ hw rfl _) rfl hK hM.1 hM.2.1 hS hA (fun cA => rfl) (nI_pos (by omega)) (nI_clamp (by omega)) (by show len * _ ≤ _; exact Nat.le_trans (Nat.mul_le_mul (Nat.le_of_lt hlen) (show componentBytes .long ≤ 8 by decide)) (by decide)) (by omega) (by omega) hd (fun q cA H1 hK1 hP1 hD1 hS1 => ?_)
  have hA2 := m_Ag_new (k := 102) (len := len) (q := q) (cA := cA) ha (by rw [hn]; exact hns)
  have hW2 := m_ws_new (ad := ad) (ca := ca) (h := h) (k := 102) (len := len) (q := q) (cA := cA) (by rw [hn]; exact hwR)
  rw [show m_cell (m_nw ad h.1 q) (m_nw ca h.1 cA) (m_new h 102 len) h.1 = .inl (cA, len, .inr (.inl (fun _ => 0))) by unfold m_cell; simp [m_new, m_nw_eq]] at hW2
  rw [← hW2] at hP1 hD1
  have hl2 := m_loc_nw (q := q) hwL hl
  have hst2 := m_st_nw (ad := ad) (q := q) hwS
  subst hn
  refine W.eq (g2 := F0 m (pc + 2) ls ((Value.ref h.1 :: st).map (m_tv (m_nw ad h.1 q)))) (by rw [List.map_cons, hst2]; show _ = F0 m _ ls (Value.ref (m_nw ad h.1 q h.1) :: _); rw [m_nw_eq]) ?_
  exact kk p e s m args below meth c R A H1 locs (cells + 1) (slots + len) ls (m_nw ad h.1 q) (m_nw ca h.1 cA) n0 ad0 ca0 hc (by omega) (by omega) hA2 (fun z => by obtain ⟨y1, y2, y3, y4⟩ := hs z; exact ⟨y1, y2, y3, by rw [m_nw_ne (by omega)]; exact y4⟩) ⟨hP1, hD1, m_K_new hM.2.2 (fun _ => hK1)⟩ hS1 hl2
def r_newS (P : m_P) : Prop := ∀ (B : m_B) (pc : Nat) (L : m_L) (st : List Value) (h : m_H) (rc rs : Nat) (n idx len rc1 rs1 : Nat), decode B.1.2.1 pc = .ok (.anewarray idx, 3) → m_wf n L st h → Cond.classLink B.1.1.cls idx RX8 ∈ lw_tbl → Cond.arrayOver (.object RX8) ∈ lw_tbl → len < 1000 → rc = rc1 + 1 → rs = rs1 + len → P B (pc + 3) L (.ref n :: st) (m_new h 103 len) rc1 rs1 → P B pc L (.int (nI len) :: st) h rc rs
theorem g_newS : r_newS (m_G l D b0 L0 xs) := by
  intro B pc L st h rc rs n idx len rc1 rs1 hd hwf hw hw2 hlen hrc hrs kk p e s m args below meth c R A H locs cells slots ls ad ca n0 ad0 ca0 hc h1 h2 ha hs hM hS hl
  obtain ⟨hx, hb, hml, hr, hlk, hown, htb, hin, hE, hK, hRf, hRl, hA⟩ := id hc
  obtain ⟨hn, hns, hwL, hwS, hwR⟩ := hwf
  subst hrc; subst hrs
  refine va_newq (C := RX8) (N' := len) hx hb hown (hE.1 _ hw rfl _) (va_AO.of (hE.1 _ hw2 rfl #[])) hK hM.1 hM.2.1 hS hA (nI_pos (by omega)) (nI_clamp (by omega)) (by omega) (by omega) (by omega) hd (fun q cA H1 hK1 hP1 hD1 hS1 => ?_)
  have hA2 := m_Ag_new (k := 103) (len := len) (q := q) (cA := cA) ha (by rw [hn]; exact hns)
  have hW2 := m_ws_new (ad := ad) (ca := ca) (h := h) (k := 103) (len := len) (q := q) (cA := cA) (by rw [hn]; exact hwR)
  rw [show m_cell (m_nw ad h.1 q) (m_nw ca h.1 cA) (m_new h 103 len) h.1 = .inl (cA, len, .inr (.inr (.inr (.inr (fun _ => none))))) by unfold m_cell; simp [m_new, m_nw_eq]] at hW2
  rw [← hW2] at hP1 hD1
  have hl2 := m_loc_nw (q := q) hwL hl
  have hst2 := m_st_nw (ad := ad) (q := q) hwS
  subst hn
  refine W.eq (g2 := F0 m (pc + 3) ls ((Value.ref h.1 :: st).map (m_tv (m_nw ad h.1 q)))) (by rw [List.map_cons, hst2]; show _ = F0 m _ ls (Value.ref (m_nw ad h.1 q h.1) :: _); rw [m_nw_eq]) ?_
  exact kk p e s m args below meth c R A H1 locs (cells + 1) (slots + len) ls (m_nw ad h.1 q) (m_nw ca h.1 cA) n0 ad0 ca0 hc (by omega) (by omega) hA2 (fun z => by obtain ⟨y1, y2, y3, y4⟩ := hs z; exact ⟨y1, y2, y3, by rw [m_nw_ne (by omega)]; exact y4⟩) ⟨hP1, hD1, m_K_new hM.2.2 (fun _ => hK1)⟩ hS1 hl2
def r_newD (P : m_P) : Prop := ∀ (B : m_B) (pc : Nat) (L : m_L) (st : List Value) (h : m_H) (rc rs : Nat) (n idx len rc1 rs1 : Nat), decode B.1.2.1 pc = .ok (.anewarray idx, 3) → m_wf n L st h → Cond.classLink B.1.1.cls idx RX3 ∈ lw_tbl → Cond.arrayOver (.object RX3) ∈ lw_tbl → len < 1000 → rc = rc1 + 1 → rs = rs1 + len → P B (pc + 3) L (.ref n :: st) (m_new h 104 len) rc1 rs1 → P B pc L (.int (nI len) :: st) h rc rs
theorem g_newD : r_newD (m_G l D b0 L0 xs) := by
  intro B pc L st h rc rs n idx len rc1 rs1 hd hwf hw hw2 hlen hrc hrs kk p e s m args below meth c R A H locs cells slots ls ad ca n0 ad0 ca0 hc h1 h2 ha hs hM hS hl
  obtain ⟨hx, hb, hml, hr, hlk, hown, htb, hin, hE, hK, hRf, hRl, hA⟩ := id hc
  obtain ⟨hn, hns, hwL, hwS, hwR⟩ := hwf
  subst hrc; subst hrs
  refine va_newq (C := RX3) (N' := len) hx hb hown (hE.1 _ hw rfl _) (va_AO.of (hE.1 _ hw2 rfl #[])) hK hM.1 hM.2.1 hS hA (nI_pos (by omega)) (nI_clamp (by omega)) (by omega) (by omega) (by omega) hd (fun q cA H1 hK1 hP1 hD1 hS1 => ?_)
  have hA2 := m_Ag_new (k := 104) (len := len) (q := q) (cA := cA) ha (by rw [hn]; exact hns)
  have hW2 := m_ws_new (ad := ad) (ca := ca) (h := h) (k := 104) (len := len) (q := q) (cA := cA) (by rw [hn]; exact hwR)
  rw [show m_cell (m_nw ad h.1 q) (m_nw ca h.1 cA) (m_new h 104 len) h.1 = .inl (cA, len, .inr (.inr (.inr (.inr (fun _ => none))))) by unfold m_cell; simp [m_new, m_nw_eq]] at hW2
  rw [← hW2] at hP1 hD1
  have hl2 := m_loc_nw (q := q) hwL hl
  have hst2 := m_st_nw (ad := ad) (q := q) hwS
  subst hn
  refine W.eq (g2 := F0 m (pc + 3) ls ((Value.ref h.1 :: st).map (m_tv (m_nw ad h.1 q)))) (by rw [List.map_cons, hst2]; show _ = F0 m _ ls (Value.ref (m_nw ad h.1 q h.1) :: _); rw [m_nw_eq]) ?_
  exact kk p e s m args below meth c R A H1 locs (cells + 1) (slots + len) ls (m_nw ad h.1 q) (m_nw ca h.1 cA) n0 ad0 ca0 hc (by omega) (by omega) hA2 (fun z => by obtain ⟨y1, y2, y3, y4⟩ := hs z; exact ⟨y1, y2, y3, by rw [m_nw_ne (by omega)]; exact y4⟩) ⟨hP1, hD1, m_K_new hM.2.2 (fun _ => hK1)⟩ hS1 hl2
/-- a class of the pool that is made at a place of own's pool -/
def m_NC (own : String) (idx ci : Nat) : Prop := ∃ (C : String) (T : u_T) (N : Nat), vwCl[ci]? = some (C, T, N) ∧ Cond.classLink own idx C ∈ lw_tbl ∧ Cond.instantiable C N ∈ lw_tbl ∧ Cond.initialized C ∈ lw_tbl
def m_fs0 (ci : Nat) : List Value := (List.range (m_nf ci)).map (fun k => if m_kd ci k = 2 then .null else .int 0)
theorem m_fs0_get {ci k : Nat} (h : k < m_nf ci) : vp_V (m_fs0 ci) k = if m_kd ci k = 2 then .null else .int 0 := by
  unfold vp_V m_fs0
  rw [List.getD_eq_getElem?_getD, List.getElem?_map, List.getElem?_range h]
  rfl
def r_new (P : m_P) : Prop := ∀ (B : m_B) (pc : Nat) (L : m_L) (st : List Value) (h : m_H) (rc rs : Nat) (n idx ci rc1 rs1 : Nat), decode B.1.2.1 pc = .ok (.new idx, 3) → m_wf n L st h → m_NC B.1.1.cls idx ci → rc = rc1 + 1 → rs = rs1 + m_nf ci → P B (pc + 3) L (.ref n :: st) (m_new h ci 0) rc1 rs1 → P B pc L st h rc rs
theorem g_new : r_new (m_G l D b0 L0 xs) := by
  intro B pc L st h rc rs n idx ci rc1 rs1 hd hwf hf hrc hrs kk p e s m args below meth c R A H locs cells slots ls ad ca n0 ad0 ca0 hc h1 h2 ha hs hM hS hl
  obtain ⟨hx, hb, hml, hr, hlk, hown, htb, hin, hE, hK, hRf, hRl, hA⟩ := id hc
  obtain ⟨hn, hns, hwL, hwS, hwR⟩ := hwf
  subst hrc; subst hrs
  obtain ⟨C, T, N, hc1, hw1, hw2, hw3⟩ := hf
  obtain ⟨C', T', N', ty, hc2, hws, hty, hnm, hown2, k0, k1, k2, k3⟩ := m_ck ci (m_ck0 hc1)
  cases Option.some.inj (hc1.symm.trans hc2)
  have hnf := m_nf_of hc1
  have hci := m_ck0 hc1
  refine va_new (fs := m_fs0 ci) hx hb (m_Cx_ts hE) (m_ws_ok hws) ty hty hown (hE.1 _ hw1 rfl _) (hE.1 _ hw2 rfl _) (hE.1 _ hw3 rfl _) hK hM.1 hM.2.1 hS hA hc1 (fun j hj => ?_) (by omega) (by omega) hd (fun q H1 hP1 hD1 hS1 => ?_)
  · rw [m_fs0_get (by rw [hnf]; exact hj)]
    rcases k3 j hj with z | z | z
    · rw [k0 j hj z, if_neg (by omega)]; rfl
    · rw [k1 j hj z, if_neg (by omega)]; rfl
    · obtain ⟨c8, y | ⟨t8, y⟩⟩ := k2 j hj z <;> rw [y, if_pos z] <;> rfl
  · obtain ⟨cA, hcA⟩ : ∃ cA : ClassId, cA = ca h.1 := ⟨_, rfl⟩
    have hA2 := m_Ag_new (k := ci) (len := 0) (q := q) (cA := cA) ha (by rw [hn]; exact hns)
    have hW2 := m_ws_new (ad := ad) (ca := ca) (h := h) (k := ci) (len := 0) (q := q) (cA := cA) (by rw [hn]; exact hwR)
    rw [show m_cell (m_nw ad h.1 q) (m_nw ca h.1 cA) (m_new h ci 0) h.1 = .inr (ci, m_fs0 ci) by unfold m_cell; rw [if_pos (by simp only [m_new, m_nw_eq]; omega)]; simp only [m_fs, m_fs0, m_new, m_nw_eq]; rfl] at hW2
    rw [← hW2] at hP1 hD1
    have hl2 := m_loc_nw (q := q) hwL hl
    have hst2 := m_st_nw (ad := ad) (q := q) hwS
    subst hn
    refine W.eq (g2 := F0 m (pc + 3) ls ((Value.ref h.1 :: st).map (m_tv (m_nw ad h.1 q)))) (by rw [List.map_cons, hst2]; show _ = F0 m _ ls (Value.ref (m_nw ad h.1 q h.1) :: _); rw [m_nw_eq]) ?_
    exact kk p e s m args below meth c R A H1 locs (cells + 1) (slots + N) ls (m_nw ad h.1 q) (m_nw ca h.1 cA) n0 ad0 ca0 hc (by omega) (by omega) hA2 (fun z => by obtain ⟨y1, y2, y3, y4⟩ := hs z; exact ⟨y1, y2, y3, by rw [m_nw_ne (by omega)]; exact y4⟩) ⟨hP1, hD1, m_K_new hM.2.2 (fun z => by omega)⟩ hS1 hl2
end RULES3
