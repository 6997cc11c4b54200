section RULES5
variable {l : Launch} {D : va_G} {b0 L0 : Nat} {xs : Nat → Int32}
/-- what the tables say of a method that is called: its code, its class, how many arguments -/
def m_MC (M : m_M) (n : Nat) : Prop := plainName M.1.cls = true ∧ M.1 ≠ yL_law ∧ Cond.initialized M.1.cls ∈ lw_tbl ∧ (M.1.cls ≠ "java/lang/invoke/MethodHandle" ∧ M.1.cls ≠ "java/lang/invoke/VarHandle") ∧ (parseMethodDescriptor M.1.desc).map (fun d => d.parameters.length) = some n ∧ M.2.2.1 ≤ 16
def m_MP (M : m_M) (n : Nat) : Prop := m_MC M n ∧ M.2.2.2.2 = [] ∧ Cond.code M.1 M.2.1 M.2.2.1 M.2.2.2.1 ∈ lw_tbl
def m_MW (M : m_M) (n : Nat) : Prop := m_MC M n ∧ Cond.codeWith M.1 M.2.1 M.2.2.1 M.2.2.2.1 M.2.2.2.2 ∈ lw_tbl ∧ Cond.static M.1 ∈ lw_tbl
/-- the kinds of calls: of a method of a class by its receiver; static; static of the nest; a constructor; a constructor of the nest; static, with a table -/
def m_CV (own : String) (idx : Nat) (M : m_M) (n ci : Nat) : Prop := m_MP M n ∧ Cond.methodLink own idx M.1 ∈ lw_tbl ∧ Cond.instanceMethod M.1 ∈ lw_tbl ∧ Cond.selects M.1.cls M.1 M.1 ∈ lw_tbl ∧ ∃ (T : u_T) (N : Nat), vwCl[ci]? = some (M.1.cls, T, N)
def m_CS (own : String) (idx : Nat) (M : m_M) (n : Nat) : Prop := m_MP M n ∧ Cond.methodLink own idx M.1 ∈ lw_tbl ∧ Cond.static M.1 ∈ lw_tbl
def m_CN (own : String) (idx : Nat) (M : m_M) (n : Nat) (host : String) : Prop := m_MP M n ∧ Cond.methodLinkNest own idx M.1 host ∈ lw_tbl ∧ Cond.static M.1 ∈ lw_tbl
def m_CI (own : String) (idx : Nat) (M : m_M) (n : Nat) : Prop := m_MP M n ∧ Cond.methodLink own idx M.1 ∈ lw_tbl ∧ Cond.instanceMethod M.1 ∈ lw_tbl ∧ M.1.name = "<init>" ∧ M.2.2.2.1 = none
def m_CJ (own : String) (idx : Nat) (M : m_M) (n : Nat) (host : String) : Prop := m_MP M n ∧ Cond.methodLinkNest own idx M.1 host ∈ lw_tbl ∧ Cond.instanceMethod M.1 ∈ lw_tbl ∧ M.1.name = "<init>" ∧ M.2.2.2.1 = none
def m_CX (own : String) (idx : Nat) (M : m_M) (n : Nat) : Prop := m_MW M n ∧ Cond.methodLink own idx M.1 ∈ lw_tbl
/-- what a caller owes at a call, over the abstract heap -/
def m_Af (P : m_P) (B : m_B) (pc : Nat) (L : m_L) (st : List Value) (h : m_H) (rc rs rc2 rs2 : Nat) (K2 : Option Value → m_H → Prop) (KX2 : String → m_H → Prop) : Prop :=
  rc2 ≤ rc ∧ rs2 ≤ rs ∧ (∀ v h2, K2 v h2 → (h2.1 = h.1 ∨ m_vl h.1 L st) ∧ P B (pc + 3) L (v.toList ++ st) h2 (rc - rc2) (rs - rs2)) ∧
  ∀ E h2, KX2 E h2 → h2.1 = h.1 ∧ ((B.1.2.2.2.2 = [] ∧ B.2.2.2 E h2) ∨ ∃ cn, m_Hd B.1 pc E cn ∧ B.2.2.1 (some (.int cn)) h2)
def m_Wd (vs st : List Value) (n : Nat) : Prop := (∀ v ∈ vs, v.category = 1) ∧ vs.length ≤ n ∧ (st.map fun v => v.category).sum ≤ 8
theorem m_cats {ad : Nat → Nat} (st : List Value) : ((st.map (m_tv ad)).map fun v => v.category) = st.map fun v => v.category := by
  rw [List.map_map]
  exact List.map_congr_left (fun v _ => m_tv_cat ad v)
theorem m_callB {R : Room} {A : Nat → Prop} {s : State} {args : Array Value} {own : String} {idx n d rc rs : Nat} {M : m_M} (hE : m_Env A s) (hM : m_MP M n) (hl : Cond.methodLink own idx M.1 ∈ lw_tbl) (hf : d + 1 ≤ R.frames) (hlo : 36 * (d + 1) ≤ R.locals) :
    CallB R s args own idx M.1 M.2.1 M.2.2.1 M.2.2.2.1 [Cond.code M.1 M.2.1 M.2.2.1 M.2.2.2.1] { frames := d, cells := rc, slots := rs, locals := 36 * d } rc rs n := by
  obtain ⟨⟨c1, c2, c3, c4, c5, c6⟩, c7, c8⟩ := hM
  refine ⟨rfl, rfl, hf, by show 8 + (M.2.2.1 + 11) + 36 * d ≤ _; omega, fun w hw a' U hW => ?_, List.mem_cons_self, hE.1 _ c8 rfl _, hE.1 _ c3 rfl _, c4, fun sig hs => ?_, hE.1 _ hl rfl _⟩
  · rw [List.mem_singleton] at hw
    subst hw
    exact m_wm rfl hW (hE.1 _ c8 rfl args)
  · rw [hs] at c5
    exact (Option.some.inj c5).symm
theorem m_callN {R : Room} {A : Nat → Prop} {s : State} {args : Array Value} {own host : String} {idx n d rc rs : Nat} {M : m_M} (hE : m_Env A s) (hM : m_MP M n) (hl : Cond.methodLinkNest own idx M.1 host ∈ lw_tbl) (hf : d + 1 ≤ R.frames) (hlo : 36 * (d + 1) ≤ R.locals) :
    va_CN R s args own idx M.1 host M.2.1 M.2.2.1 M.2.2.2.1 [Cond.code M.1 M.2.1 M.2.2.1 M.2.2.2.1] { frames := d, cells := rc, slots := rs, locals := 36 * d } rc rs n := by
  obtain ⟨⟨c1, c2, c3, c4, c5, c6⟩, c7, c8⟩ := hM
  refine ⟨⟨rfl, rfl, hf, by show 8 + (M.2.2.1 + 11) + 36 * d ≤ _; omega, fun w hw a' U hW => ?_, List.mem_cons_self⟩, hE.1 _ c8 rfl _, hE.1 _ c3 rfl _, c4, fun sig hs => ?_, hE.1 _ hl rfl _⟩
  · rw [List.mem_singleton] at hw
    subst hw
    exact m_wm rfl hW (hE.1 _ c8 rfl args)
  · rw [hs] at c5
    exact (Option.some.inj c5).symm
theorem m_callW {R : Room} {A : Nat → Prop} {s : State} {args : Array Value} {own : String} {idx n d rc rs : Nat} {M : m_M} (hE : m_Env A s) (hM : m_MW M n) (hl : Cond.methodLink own idx M.1 ∈ lw_tbl) (hf : d + 1 ≤ R.frames) (hlo : 36 * (d + 1) ≤ R.locals) :
    vx_CSW R s args own idx M.1 M.2.1 M.2.2.1 M.2.2.2.1 M.2.2.2.2 [Cond.codeWith M.1 M.2.1 M.2.2.1 M.2.2.2.1 M.2.2.2.2] { frames := d, cells := rc, slots := rs, locals := 36 * d } rc rs n := by
  obtain ⟨⟨c1, c2, c3, c4, c5, c6⟩, c7, c8⟩ := hM
  refine ⟨⟨rfl, rfl, hf, by show 8 + (M.2.2.1 + 11) + 36 * d ≤ _; omega, fun w hw a' U hW => ?_, List.mem_cons_self⟩, hE.1 _ c7 rfl _, hE.1 _ c3 rfl _, c4, fun sig hs => ?_, hE.1 _ hl rfl _, hE.1 _ c8 rfl _⟩
  · rw [List.mem_singleton] at hw
    subst hw
    exact m_wm rfl hW (hE.1 _ c7 rfl args)
  · rw [hs] at c5
    exact (Option.some.inj c5).symm
def r_callV (P : m_P) : Prop := ∀ (B : m_B) (pc : Nat) (L : m_L) (st : List Value) (h : m_H) (rc rs : Nat) (idx n d rc2 rs2 : Nat) (M : m_M) (As : List Value) (K2 : Option Value → m_H → Prop) (KX2 : String → m_H → Prop) (b ci : Nat), decode B.1.2.1 pc = .ok (.invokevirtual idx, 3) → m_CV B.1.1.cls idx M n ci → b < h.1 → (h.2.1 b).1 = ci → d + 1 ≤ B.2.1 → m_Wd (.ref b :: As) st M.2.2.1 → As.length = n → P (M, d, K2, KX2) 0 (m_L0 M.2.2.1 (.ref b :: As)) [] h rc2 rs2 → m_Af P B pc L st h rc rs rc2 rs2 K2 KX2 → P B pc L (As.reverse ++ .ref b :: st) h rc rs
theorem g_callV : r_callV (m_G l D b0 L0 xs) := by
  intro B pc L st h rc rs idx n d rc2 rs2 M As K2 KX2 b ci hd hf hbl hbk hd9 hwd hn kk2 haf p e s m args below meth c R A H locs cells slots ls ad ca n0 ad0 ca0 hc h1 h2 ha hs hM hS hl
  obtain ⟨hx, hb, hml, hr, hlk, hown, htb, hin, hE, hK, hRf, hRl, hA⟩ := id hc
  obtain ⟨hrc, hrs, hk2, hx2⟩ := haf
  obtain ⟨hw1, hw2, hw3⟩ := hwd
  obtain ⟨hP2, hw5, hw6, hw7, T9, N9, hc1⟩ := hf
  have hci := m_ck0 hc1
  have hge : (m_ws ad ca h)[b]? = some (ad b, .inr (ci, m_fs ad h b)) := by rw [m_ws_get hbl, m_cell_o (by omega), hbk]
  refine m_after hk2 hx2 hrc hrs p e s m args below meth c R A H locs cells slots ls ad ca n0 ad0 ca0 hc h1 h2 ha hs hM hS hl (a9 := ((.ref b :: As).map (m_tv ad)).toArray) ?_
  exact vx_runV (As := As.map (m_tv ad)) (rest := st.map (m_tv ad)) ⟨hx, hb, hml, hown, m_Cx_ts hE⟩ (m_met ad ca H.size kk2 hP2.2.1 hP2.1.1 hP2.1.2.1 hw1 hw2) ⟨m_callB hE hP2 hw5 (by omega) (by omega), hE.1 _ hw6 rfl _, hE.1 _ hw7 rfl _⟩ ⟨m_Pc_blind, va_recv hK hM.1 hc1 hge, m_Pc_at hE hK hM hS hA (.ref b :: As)⟩ rfl (by rw [List.length_map]; exact hn) (hl.2.1) (by simp [List.map_append, List.map_reverse, m_tv]) (lv_room (by rw [m_cats]; exact hw3)) hd (by omega)
def r_callS (P : m_P) : Prop := ∀ (B : m_B) (pc : Nat) (L : m_L) (st : List Value) (h : m_H) (rc rs : Nat) (idx n d rc2 rs2 : Nat) (M : m_M) (As : List Value) (K2 : Option Value → m_H → Prop) (KX2 : String → m_H → Prop), decode B.1.2.1 pc = .ok (.invokestatic idx, 3) → m_CS B.1.1.cls idx M n → d + 1 ≤ B.2.1 → m_Wd (As) st M.2.2.1 → As.length = n → P (M, d, K2, KX2) 0 (m_L0 M.2.2.1 (As)) [] h rc2 rs2 → m_Af P B pc L st h rc rs rc2 rs2 K2 KX2 → P B pc L (As.reverse ++ st) h rc rs
theorem g_callS : r_callS (m_G l D b0 L0 xs) := by
  intro B pc L st h rc rs idx n d rc2 rs2 M As K2 KX2 hd hf hd9 hwd hn kk2 haf p e s m args below meth c R A H locs cells slots ls ad ca n0 ad0 ca0 hc h1 h2 ha hs hM hS hl
  obtain ⟨hx, hb, hml, hr, hlk, hown, htb, hin, hE, hK, hRf, hRl, hA⟩ := id hc
  obtain ⟨hrc, hrs, hk2, hx2⟩ := haf
  obtain ⟨hw1, hw2, hw3⟩ := hwd
  obtain ⟨hP2, hw5, hw6⟩ := hf
  refine m_after hk2 hx2 hrc hrs p e s m args below meth c R A H locs cells slots ls ad ca n0 ad0 ca0 hc h1 h2 ha hs hM hS hl (a9 := (As.map (m_tv ad)).toArray) ?_
  exact vx_runS (As := As.map (m_tv ad)) (rest := st.map (m_tv ad)) ⟨hx, hb, hml, hown, m_Cx_ts hE⟩ (m_met ad ca H.size kk2 hP2.2.1 hP2.1.1 hP2.1.2.1 hw1 hw2) ⟨m_callB hE hP2 hw5 (by omega) (by omega), hE.1 _ hw6 rfl _⟩ ⟨m_Pc_blind, m_Pc_at hE hK hM hS hA As⟩ rfl (by rw [List.length_map]; exact hn) (hl.2.1) (by simp [List.map_append, List.map_reverse, m_tv]) (lv_room (by rw [m_cats]; exact hw3)) hd (by omega)
def r_callN (P : m_P) : Prop := ∀ (B : m_B) (pc : Nat) (L : m_L) (st : List Value) (h : m_H) (rc rs : Nat) (idx n d rc2 rs2 : Nat) (M : m_M) (As : List Value) (K2 : Option Value → m_H → Prop) (KX2 : String → m_H → Prop) (host : String), decode B.1.2.1 pc = .ok (.invokestatic idx, 3) → m_CN B.1.1.cls idx M n host → d + 1 ≤ B.2.1 → m_Wd (As) st M.2.2.1 → As.length = n → P (M, d, K2, KX2) 0 (m_L0 M.2.2.1 (As)) [] h rc2 rs2 → m_Af P B pc L st h rc rs rc2 rs2 K2 KX2 → P B pc L (As.reverse ++ st) h rc rs
theorem g_callN : r_callN (m_G l D b0 L0 xs) := by
  intro B pc L st h rc rs idx n d rc2 rs2 M As K2 KX2 host hd hf hd9 hwd hn kk2 haf p e s m args below meth c R A H locs cells slots ls ad ca n0 ad0 ca0 hc h1 h2 ha hs hM hS hl
  obtain ⟨hx, hb, hml, hr, hlk, hown, htb, hin, hE, hK, hRf, hRl, hA⟩ := id hc
  obtain ⟨hrc, hrs, hk2, hx2⟩ := haf
  obtain ⟨hw1, hw2, hw3⟩ := hwd
  obtain ⟨hP2, hw5, hw6⟩ := hf
  refine m_after hk2 hx2 hrc hrs p e s m args below meth c R A H locs cells slots ls ad ca n0 ad0 ca0 hc h1 h2 ha hs hM hS hl (a9 := (As.map (m_tv ad)).toArray) ?_
  exact vx_runSN (As := As.map (m_tv ad)) (rest := st.map (m_tv ad)) ⟨hx, hb, hml, hown, m_Cx_ts hE⟩ (m_met ad ca H.size kk2 hP2.2.1 hP2.1.1 hP2.1.2.1 hw1 hw2) ⟨m_callN hE hP2 hw5 (by omega) (by omega), hE.1 _ hw6 rfl _, trivial⟩ ⟨m_Pc_blind, m_Pc_at hE hK hM hS hA As⟩ rfl (by rw [List.length_map]; exact hn) (hl.2.1) (by simp [List.map_append, List.map_reverse, m_tv]) (lv_room (by rw [m_cats]; exact hw3)) hd (by omega)
def r_callX (P : m_P) : Prop := ∀ (B : m_B) (pc : Nat) (L : m_L) (st : List Value) (h : m_H) (rc rs : Nat) (idx n d rc2 rs2 : Nat) (M : m_M) (As : List Value) (K2 : Option Value → m_H → Prop) (KX2 : String → m_H → Prop), decode B.1.2.1 pc = .ok (.invokestatic idx, 3) → m_CX B.1.1.cls idx M n → d + 1 ≤ B.2.1 → m_Wd (As) st M.2.2.1 → As.length = n → P (M, d, K2, KX2) 0 (m_L0 M.2.2.1 (As)) [] h rc2 rs2 → m_Af P B pc L st h rc rs rc2 rs2 K2 KX2 → P B pc L (As.reverse ++ st) h rc rs
theorem g_callX : r_callX (m_G l D b0 L0 xs) := by
  intro B pc L st h rc rs idx n d rc2 rs2 M As K2 KX2 hd hf hd9 hwd hn kk2 haf p e s m args below meth c R A H locs cells slots ls ad ca n0 ad0 ca0 hc h1 h2 ha hs hM hS hl
  obtain ⟨hx, hb, hml, hr, hlk, hown, htb, hin, hE, hK, hRf, hRl, hA⟩ := id hc
  obtain ⟨hrc, hrs, hk2, hx2⟩ := haf
  obtain ⟨hw1, hw2, hw3⟩ := hwd
  obtain ⟨hP2, hw5⟩ := hf
  refine m_after hk2 hx2 hrc hrs p e s m args below meth c R A H locs cells slots ls ad ca n0 ad0 ca0 hc h1 h2 ha hs hM hS hl (a9 := (As.map (m_tv ad)).toArray) ?_
  exact vx_runSX (As := As.map (m_tv ad)) (rest := st.map (m_tv ad)) ⟨hx, hb, hml, hown, m_Cx_ts hE⟩ (m_metX ad ca H.size kk2 hP2.1.1 hP2.1.2.1 hw1 hw2) (m_callW hE hP2 hw5 (by omega) (by omega)) ⟨m_Pc_blind, m_Pc_at hE hK hM hS hA As⟩ rfl (by rw [List.length_map]; exact hn) (hl.2.1) (by simp [List.map_append, List.map_reverse, m_tv]) (lv_room (by rw [m_cats]; exact hw3)) hd (by omega)
def r_callI (P : m_P) : Prop := ∀ (B : m_B) (pc : Nat) (L : m_L) (st : List Value) (h : m_H) (rc rs : Nat) (idx n d rc2 rs2 : Nat) (M : m_M) (As : List Value) (K2 : Option Value → m_H → Prop) (KX2 : String → m_H → Prop) (b : Nat), decode B.1.2.1 pc = .ok (.invokespecial idx, 3) → m_CI B.1.1.cls idx M n → d + 1 ≤ B.2.1 → m_Wd (.ref b :: As) st M.2.2.1 → As.length = n → P (M, d, K2, KX2) 0 (m_L0 M.2.2.1 (.ref b :: As)) [] h rc2 rs2 → m_Af P B pc L st h rc rs rc2 rs2 K2 KX2 → P B pc L (As.reverse ++ .ref b :: st) h rc rs
theorem g_callI : r_callI (m_G l D b0 L0 xs) := by
  intro B pc L st h rc rs idx n d rc2 rs2 M As K2 KX2 b hd hf hd9 hwd hn kk2 haf p e s m args below meth c R A H locs cells slots ls ad ca n0 ad0 ca0 hc h1 h2 ha hs hM hS hl
  obtain ⟨hx, hb, hml, hr, hlk, hown, htb, hin, hE, hK, hRf, hRl, hA⟩ := id hc
  obtain ⟨hrc, hrs, hk2, hx2⟩ := haf
  obtain ⟨hw1, hw2, hw3⟩ := hwd
  obtain ⟨hP2, hw5, hw6, hw7, hw8⟩ := hf
  have hcb := m_callB (rc := rc2) (rs := rs2) (d := d) (R := R) (args := args) hE hP2 hw5 (by omega) (by omega)
  have hmt := m_met ad ca H.size kk2 hP2.2.1 hP2.1.1 hP2.1.2.1 hw1 hw2
  rw [hw8] at hcb hmt
  refine m_after hk2 hx2 hrc hrs p e s m args below meth c R A H locs cells slots ls ad ca n0 ad0 ca0 hc h1 h2 ha hs hM hS hl (a9 := ((.ref b :: As).map (m_tv ad)).toArray) ?_
  exact vx_runI (b := ad b) (As := As.map (m_tv ad)) (rest := st.map (m_tv ad)) ⟨hx, hb, hml, hown, m_Cx_ts hE⟩ hmt ⟨hcb, hw7, hE.1 _ hw6 rfl _⟩ ⟨m_Pc_blind, m_Pc_at hE hK hM hS hA (.ref b :: As)⟩ rfl (by rw [List.length_map]; exact hn) (hl.2.1) (by simp [List.map_append, List.map_reverse, m_tv]) (lv_room (by rw [m_cats]; exact hw3)) hd (by omega)
def r_callJ (P : m_P) : Prop := ∀ (B : m_B) (pc : Nat) (L : m_L) (st : List Value) (h : m_H) (rc rs : Nat) (idx n d rc2 rs2 : Nat) (M : m_M) (As : List Value) (K2 : Option Value → m_H → Prop) (KX2 : String → m_H → Prop) (b : Nat) (host : String), decode B.1.2.1 pc = .ok (.invokespecial idx, 3) → m_CJ B.1.1.cls idx M n host → d + 1 ≤ B.2.1 → m_Wd (.ref b :: As) st M.2.2.1 → As.length = n → P (M, d, K2, KX2) 0 (m_L0 M.2.2.1 (.ref b :: As)) [] h rc2 rs2 → m_Af P B pc L st h rc rs rc2 rs2 K2 KX2 → P B pc L (As.reverse ++ .ref b :: st) h rc rs
theorem g_callJ : r_callJ (m_G l D b0 L0 xs) := by
  intro B pc L st h rc rs idx n d rc2 rs2 M As K2 KX2 b host hd hf hd9 hwd hn kk2 haf p e s m args below meth c R A H locs cells slots ls ad ca n0 ad0 ca0 hc h1 h2 ha hs hM hS hl
  obtain ⟨hx, hb, hml, hr, hlk, hown, htb, hin, hE, hK, hRf, hRl, hA⟩ := id hc
  obtain ⟨hrc, hrs, hk2, hx2⟩ := haf
  obtain ⟨hw1, hw2, hw3⟩ := hwd
  obtain ⟨hP2, hw5, hw6, hw7, hw8⟩ := hf
  have hcb := m_callN (rc := rc2) (rs := rs2) (d := d) (R := R) (args := args) hE hP2 hw5 (by omega) (by omega)
  have hmt := m_met ad ca H.size kk2 hP2.2.1 hP2.1.1 hP2.1.2.1 hw1 hw2
  rw [hw8] at hcb hmt
  refine m_after hk2 hx2 hrc hrs p e s m args below meth c R A H locs cells slots ls ad ca n0 ad0 ca0 hc h1 h2 ha hs hM hS hl (a9 := ((.ref b :: As).map (m_tv ad)).toArray) ?_
  exact vx_runIN (b := ad b) (As := As.map (m_tv ad)) (rest := st.map (m_tv ad)) ⟨hx, hb, hml, hown, m_Cx_ts hE⟩ hmt ⟨hcb, hw7, hE.1 _ hw6 rfl _⟩ ⟨m_Pc_blind, m_Pc_at hE hK hM hS hA (.ref b :: As)⟩ rfl (by rw [List.length_map]; exact hn) (hl.2.1) (by simp [List.map_append, List.map_reverse, m_tv]) (lv_room (by rw [m_cats]; exact hw3)) hd (by omega)
def r_obj (P : m_P) : Prop := ∀ (B : m_B) (pc : Nat) (L : m_L) (st : List Value) (h : m_H) (rc rs : Nat) (idx b : Nat), decode B.1.2.1 pc = .ok (.invokespecial idx, 3) → Cond.methodLink B.1.1.cls idx Lib.objectInit ∈ lw_tbl → Cond.instanceMethod Lib.objectInit ∈ lw_tbl → Cond.code Lib.objectInit ⟨#[0xb1]⟩ 1 none ∈ lw_tbl → 1 ≤ B.2.1 → (st.map fun v => v.category).sum ≤ 8 → P B (pc + 3) L (st) h rc rs → P B pc L (.ref b :: st) h rc rs
theorem g_obj : r_obj (m_G l D b0 L0 xs) := by
  intro B pc L st h rc rs idx b hd hw hw2 hw3 hd9 hw4 kk p e s m args below meth c R A H locs cells slots ls ad ca n0 ad0 ca0 hc h1 h2 ha hs hM hS hl
  obtain ⟨hx, hb, hml, hr, hlk, hown, htb, hin, hE, hK, hRf, hRl, hA⟩ := id hc
  have hroom := lv_room (m := m) (pc := pc) (ls := ls) (rest := (Value.ref b :: st).map (m_tv ad)) (st := st.map (m_tv ad)) (by rw [m_cats]; exact hw4)
  exact W.objInit hx hb hown (hE.1 _ hw rfl _) (hE.1 _ hw2 rfl _) (hE.1 _ hw3 rfl _) rfl (by rw [hml]; exact hl.2.1) rfl hd (by omega) (by omega) (kk p e s m args below meth c R A H locs cells slots ls ad ca n0 ad0 ca0 hc h1 h2 ha hs hM hS hl)
def r_iret (P : m_P) : Prop := ∀ (B : m_B) (pc : Nat) (L : m_L) (st : List Value) (h : m_H) (rc rs : Nat) (x : Int32), decode B.1.2.1 pc = .ok (.ireturn, 1) → B.1.2.2.2.1 = some .int → st = [.int x] → B.2.2.1 (some (.int x)) h → P B pc L st h rc rs
theorem g_iret : r_iret (m_G l D b0 L0 xs) := by
  intro B pc L st h rc rs x hd hr2 hst hk p e s m args below meth c R A H locs cells slots ls ad ca n0 ad0 ca0 hc h1 h2 ha hs hM hS hl
  obtain ⟨hx, hb, hml, hr, hlk, hown, htb, hin, hE, hK, hRf, hRl, hA⟩ := id hc
  subst hst
  refine W.widen (k := R.cells) (n := R.slots) (by omega) (by omega) (vx_ret ?_)
  exact W.iret hx hb (hr.trans hr2) (fun t2 ht2 hw2 => ⟨some (.int x), h, ad, ca, rfl, hk, ha, by rw [ht2]; exact hM.moved hw2.alike, hS.F ht2⟩) hS.2.2 hd hlk
def r_zret (P : m_P) : Prop := ∀ (B : m_B) (pc : Nat) (L : m_L) (st : List Value) (h : m_H) (rc rs : Nat) (x : Int32), decode B.1.2.1 pc = .ok (.ireturn, 1) → B.1.2.2.2.1 = some .boolean → st = [.int x] → (x = 0 ∨ x = 1) → B.2.2.1 (some (.int x)) h → P B pc L st h rc rs
theorem g_zret : r_zret (m_G l D b0 L0 xs) := by
  intro B pc L st h rc rs x hd hr2 hst hz hk p e s m args below meth c R A H locs cells slots ls ad ca n0 ad0 ca0 hc h1 h2 ha hs hM hS hl
  obtain ⟨hx, hb, hml, hr, hlk, hown, htb, hin, hE, hK, hRf, hRl, hA⟩ := id hc
  subst hst
  refine W.widen (k := R.cells) (n := R.slots) (by omega) (by omega) (vx_ret ?_)
  exact W.zret hx hb (hr.trans hr2) (by rcases hz with rfl | rfl <;> rfl) (fun t2 ht2 hw2 => ⟨some (.int x), h, ad, ca, rfl, hk, ha, by rw [ht2]; exact hM.moved hw2.alike, hS.F ht2⟩) hS.2.2 hd hlk
def r_vret (P : m_P) : Prop := ∀ (B : m_B) (pc : Nat) (L : m_L) (st : List Value) (h : m_H) (rc rs : Nat), decode B.1.2.1 pc = .ok (.return_, 1) → B.1.2.2.2.1 = none → st = [] → B.2.2.1 none h → P B pc L st h rc rs
theorem g_vret : r_vret (m_G l D b0 L0 xs) := by
  intro B pc L st h rc rs  hd hr2 hst hk p e s m args below meth c R A H locs cells slots ls ad ca n0 ad0 ca0 hc h1 h2 ha hs hM hS hl
  obtain ⟨hx, hb, hml, hr, hlk, hown, htb, hin, hE, hK, hRf, hRl, hA⟩ := id hc
  subst hst
  refine W.widen (k := R.cells) (n := R.slots) (by omega) (by omega) (vx_ret ?_)
  exact W.vret hx hb (hr.trans hr2) (fun t2 ht2 hw2 => ⟨none, h, ad, ca, rfl, hk, ha, by rw [ht2]; exact hM.moved hw2.alike, hS.F ht2⟩) hS.2.2 hd hlk
def r_aret (P : m_P) : Prop := ∀ (B : m_B) (pc : Nat) (L : m_L) (st : List Value) (h : m_H) (rc rs : Nat) (i : Nat) (nm : String), decode B.1.2.1 pc = .ok (.areturn, 1) → B.1.2.2.2.1 = some (.object nm) → st = [.ref i] → B.2.2.1 (some (.ref i)) h → P B pc L st h rc rs
theorem g_aret : r_aret (m_G l D b0 L0 xs) := by
  intro B pc L st h rc rs i nm hd hr2 hst hk p e s m args below meth c R A H locs cells slots ls ad ca n0 ad0 ca0 hc h1 h2 ha hs hM hS hl
  obtain ⟨hx, hb, hml, hr, hlk, hown, htb, hin, hE, hK, hRf, hRl, hA⟩ := id hc
  subst hst
  refine W.widen (k := R.cells) (n := R.slots) (by omega) (by omega) (vx_ret ?_)
  exact W.aret (v := .ref (ad i)) hx hb (hr.trans hr2) (Or.inl ⟨nm, rfl⟩) (Or.inr ⟨_, rfl⟩) (fun t2 ht2 hw2 => ⟨some (.ref i), h, ad, ca, rfl, hk, ha, by rw [ht2]; exact hM.moved hw2.alike, hS.F ht2⟩) hS.2.2 hd hlk
/-- 'throw new X("text")' at a place of own's code -/
def m_TS (own : String) (ik is ic : Nat) (cls text : String) : Prop := Bundle.fit cls = true ∧ Cond.classLink own ik cls ∈ lw_tbl ∧ Cond.initialized cls ∈ lw_tbl ∧ (own, is, text) ∈ m_strs ∧ (∀ w ∈ vx_atS own ic cls ["java/lang/RuntimeException", "java/lang/Exception"], w ∈ lw_tbl ∧ m_ok w = true ∧ vx_ot w = true)
variable {hlt : l.stackTraces = false}
def r_thr (P : m_P) : Prop := ∀ (B : m_B) (pc : Nat) (L : m_L) (st : List Value) (h : m_H) (rc rs : Nat) (ik is ic : Nat) (cls text : String), decode B.1.2.1 pc = .ok (.new ik, 3) → decode B.1.2.1 (pc + 3) = .ok (.dup, 1) → decode B.1.2.1 (pc + 4) = .ok (.ldc is, 2) → decode B.1.2.1 (pc + 6) = .ok (.invokespecial ic, 3) → decode B.1.2.1 (pc + 9) = .ok (.athrow, 1) → m_TS B.1.1.cls ik is ic cls text → B.1.2.2.2.2 = [] → 6 ≤ B.2.1 → 1 ≤ rc → 6 ≤ rs → (st.map fun v => v.category).sum ≤ 8 → B.2.2.2 cls h → P B pc L st h rc rs
theorem g_thr (hlt : l.stackTraces = false) : r_thr (m_G l D b0 L0 xs) := by
  intro B pc L st h rc rs ik is ic cls text d0 d3 d4 d6 d9 ht hnil hd9 hrc hrs hsum hKX p e s m args below meth c R A H locs cells slots ls ad ca n0 ad0 ca0 hc h1 h2 ha hs hM hS hl
  obtain ⟨hx, hb, hml, hr, hlk, hown, htb, hin, hE, hK, hRf, hRl, hA⟩ := id hc
  obtain ⟨t1, t2, t3, t4, t5⟩ := ht
  obtain ⟨sa, hsa⟩ := hE.2.1 _ t4
  refine vx_throwS (names := ["java/lang/RuntimeException", "java/lang/Exception"]) (A := A) hx hb hlt hown t1 (by decide) (hE.1 _ t2 rfl _) (hE.1 _ t3 rfl _) hsa (fun w hw => hE.1 w (t5 w hw).1 (t5 w hw).2.1 _) (fun w hw => ?_) hE.2.2.2.1 hE.2.2.2.2 hS (by rw [hml]; exact hl.2.1) d0 d3 d4 d6 d9 (fun x hx9 => by rw [htb, hnil] at hx9; cases hx9) (by show 2 + 3 < _; omega) (by rw [m_cats]; show _ + (13 * (2 + 1) + 43) ≤ _; omega) (by omega) (by omega) hlk (fun t hvm hz hk9 => ?_) hS.2.2 (by omega) (by omega)
  · rcases List.mem_cons.mp hw with rfl | hw
    · rfl
    · rcases List.mem_cons.mp hw with rfl | hw
      · rfl
      · exact (t5 w hw).2.2
  · refine ⟨h, ad, ca, hKX, ha, ?_, ?_⟩
    · exact ⟨fun k q hq => (hM.1 k q hq).kept (hk9 q.1 (hM.1 k q hq).lt), hM.2.1, fun i hi hk => (hM.2.2 i hi hk).moved hvm⟩
    · exact ⟨Nat.le_trans hS.1 hz, fun q y1 y2 => (hk9 q (Nat.lt_of_lt_of_le y1 hS.1)).trans (hS.2.1 q y1 y2)⟩
def r_thrW (P : m_P) : Prop := ∀ (B : m_B) (pc : Nat) (L : m_L) (st : List Value) (h : m_H) (rc rs : Nat) (ik is ic : Nat) (cls text : String), decode B.1.2.1 pc = .ok (.new ik, 3) → decode B.1.2.1 (pc + 3) = .ok (.dup, 1) → decode B.1.2.1 (pc + 4) = .ok (.ldc_w is, 3) → decode B.1.2.1 (pc + 7) = .ok (.invokespecial ic, 3) → decode B.1.2.1 (pc + 10) = .ok (.athrow, 1) → m_TS B.1.1.cls ik is ic cls text → B.1.2.2.2.2 = [] → 6 ≤ B.2.1 → 1 ≤ rc → 6 ≤ rs → (st.map fun v => v.category).sum ≤ 8 → B.2.2.2 cls h → P B pc L st h rc rs
theorem g_thrW (hlt : l.stackTraces = false) : r_thrW (m_G l D b0 L0 xs) := by
  intro B pc L st h rc rs ik is ic cls text d0 d3 d4 d6 d9 ht hnil hd9 hrc hrs hsum hKX p e s m args below meth c R A H locs cells slots ls ad ca n0 ad0 ca0 hc h1 h2 ha hs hM hS hl
  obtain ⟨hx, hb, hml, hr, hlk, hown, htb, hin, hE, hK, hRf, hRl, hA⟩ := id hc
  obtain ⟨t1, t2, t3, t4, t5⟩ := ht
  obtain ⟨sa, hsa⟩ := hE.2.1 _ t4
  refine vx_throwSW (names := ["java/lang/RuntimeException", "java/lang/Exception"]) (A := A) hx hb hlt hown t1 (by decide) (hE.1 _ t2 rfl _) (hE.1 _ t3 rfl _) hsa (fun w hw => hE.1 w (t5 w hw).1 (t5 w hw).2.1 _) (fun w hw => ?_) hE.2.2.2.1 hE.2.2.2.2 hS (by rw [hml]; exact hl.2.1) d0 d3 d4 d6 d9 (fun x hx9 => by rw [htb, hnil] at hx9; cases hx9) (by show 2 + 3 < _; omega) (by rw [m_cats]; show _ + (13 * (2 + 1) + 43) ≤ _; omega) (by omega) (by omega) hlk (fun t hvm hz hk9 => ?_) hS.2.2 (by omega) (by omega)
  · rcases List.mem_cons.mp hw with rfl | hw
    · rfl
    · rcases List.mem_cons.mp hw with rfl | hw
      · rfl
      · exact (t5 w hw).2.2
  · refine ⟨h, ad, ca, hKX, ha, ?_, ?_⟩
    · exact ⟨fun k q hq => (hM.1 k q hq).kept (hk9 q.1 (hM.1 k q hq).lt), hM.2.1, fun i hi hk => (hM.2.2 i hi hk).moved hvm⟩
    · exact ⟨Nat.le_trans hS.1 hz, fun q y1 y2 => (hk9 q (Nat.lt_of_lt_of_le y1 hS.1)).trans (hS.2.1 q y1 y2)⟩
end RULES5
/-! the least judgement closed under the rules, and that the machine does what it says -/
def m_C (S : m_S) (P : m_P) : Prop := r_iconst P ∧ r_bipush P ∧ r_sipush P ∧ r_lconst P ∧ r_ldc P ∧ r_ldcw P ∧ r_iload P ∧ r_iload_n P ∧ r_aload P ∧ r_aload_n P ∧ r_istore P ∧ r_istore_n P ∧ r_astore P ∧ r_astore_n P ∧ r_iinc P ∧ r_iadd P ∧ r_isub P ∧ r_imul P ∧ r_iand P ∧ r_ior P ∧ r_ixor P ∧ r_ishl P ∧ r_ishr P ∧ r_iushr P ∧ r_idiv P ∧ r_i2l P ∧ r_lcmp P ∧ r_if_eq P ∧ r_if_ne P ∧ r_if_lt P ∧ r_if_ge P ∧ r_if_gt P ∧ r_if_le P ∧ r_icmp_eq P ∧ r_icmp_ne P ∧ r_icmp_lt P ∧ r_icmp_ge P ∧ r_icmp_gt P ∧ r_icmp_le P ∧ r_goto P ∧ r_dup P ∧ r_dup2 P ∧ r_pop P ∧ r_tabO P ∧ r_tabI P ∧ r_geti P ∧ r_getr P ∧ r_puti P ∧ r_putz P ∧ r_putr P ∧ r_iald P ∧ r_zald P ∧ r_lald P ∧ r_aald P ∧ r_iast P ∧ r_zast P ∧ r_last P ∧ r_aast P ∧ r_alen P ∧ r_sld S P ∧ r_slen S P ∧ r_newI P ∧ r_newZ P ∧ r_newJ P ∧ r_newS P ∧ r_newD P ∧ r_new P ∧ r_callV P ∧ r_callS P ∧ r_callN P ∧ r_callX P ∧ r_callI P ∧ r_callJ P ∧ r_obj P ∧ r_iret P ∧ r_zret P ∧ r_vret P ∧ r_aret P ∧ r_thr P ∧ r_thrW P
def m_W (S : m_S) : m_P := fun B pc L st h rc rs => ∀ P : m_P, m_C S P → P B pc L st h rc rs
theorem m_C_G {l : Launch} (hlt : l.stackTraces = false) {D : va_G} {b0 L0 : Nat} {xs : Nat → Int32} (hL0 : True) : m_C (L0, xs) (m_G l D b0 L0 xs) := ⟨g_iconst, g_bipush, g_sipush, g_lconst, g_ldc, g_ldcw, g_iload, g_iload_n, g_aload, g_aload_n, g_istore, g_istore_n, g_astore, g_astore_n, g_iinc, g_iadd, g_isub, g_imul, g_iand, g_ior, g_ixor, g_ishl, g_ishr, g_iushr, g_idiv, g_i2l, g_lcmp, g_if_eq, g_if_ne, g_if_lt, g_if_ge, g_if_gt, g_if_le, g_icmp_eq, g_icmp_ne, g_icmp_lt, g_icmp_ge, g_icmp_gt, g_icmp_le, g_goto, g_dup, g_dup2, g_pop, g_tabO, g_tabI, g_geti, g_getr, g_puti, g_putz, g_putr, g_iald, g_zald, g_lald, g_aald, g_iast, g_zast, g_last, g_aast, g_alen, g_sld, g_slen, g_newI, g_newZ, g_newJ, g_newS, g_newD, g_new, g_callV, g_callS, g_callN, g_callX, g_callI, g_callJ, g_obj, g_iret, g_zret, g_vret, g_aret, g_thr hlt, g_thrW hlt⟩
theorem m_snd {l : Launch} (hlt : l.stackTraces = false) {D : va_G} {b0 L0 : Nat} {xs : Nat → Int32} {B : m_B} {pc : Nat} {L : m_L} {st : List Value} {h : m_H} {rc rs : Nat} (k : m_W (L0, xs) B pc L st h rc rs) : m_G l D b0 L0 xs B pc L st h rc rs := k _ (m_C_G hlt trivial)
