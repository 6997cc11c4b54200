/-! ===== my machine: an abstract heap (ints and references by the numbers of things), what a state of it is in the machine's heap, and a judgement over it that is the least one closed under rules ===== -/
abbrev m_H : Type := Nat × (Nat → Nat × Nat) × (Nat → Nat → Int32) × (Nat → Nat → Option Nat) × (Nat → Nat → Int64)
abbrev m_M : Type := MethodName × ByteArray × Nat × Option FieldType × List (Nat × Nat × Nat × Nat)
abbrev m_B : Type := m_M × Nat × (Option Value → m_H → Prop) × (String → m_H → Prop)
abbrev m_L : Type := List (Option Value)
abbrev m_P : Type := m_B → Nat → m_L → List Value → m_H → Nat → Nat → Prop
/-- the script stands for a thing of this number -/
def m_scr : Nat := 100000
def m_nf (c : Nat) : Nat := match vwCl[c]? with
  | some r => r.2.2
  | none => 0
/-- a field's kind: 0 an int, 1 a boolean, 2 a reference -/
def m_kd (c k : Nat) : Nat := match vwCl[c]? with
  | some r => if (r.2.1 k).2.2.1 = "I" then 0 else if (r.2.1 k).2.2.1 = "Z" then 1 else 2
  | none => 0
def m_ty : Nat → FieldType := fun k => match k with
  | 100 => .int
  | 101 => .boolean
  | 102 => .long
  | 103 => .object RX8
  | _ => .object RX3
def m_fs (ad : Nat → Nat) (h : m_H) (i : Nat) : List Value := (List.range (m_nf (h.2.1 i).1)).map (fun k => if m_kd (h.2.1 i).1 k = 2 then va_rf ((h.2.2.2.1 i k).map ad) else .int (h.2.2.1 i k))
def m_cell (ad : Nat → Nat) (ca : Nat → ClassId) (h : m_H) (i : Nat) : va_E :=
  if (h.2.1 i).1 < 100 then .inr ((h.2.1 i).1, m_fs ad h i)
  else if (h.2.1 i).1 < 102 then .inl (ca i, (h.2.1 i).2, .inl (h.2.2.1 i))
  else if (h.2.1 i).1 = 102 then .inl (ca i, (h.2.1 i).2, .inr (.inl (h.2.2.2.2 i)))
  else .inl (ca i, (h.2.1 i).2, .inr (.inr (.inr (.inr (fun j => (h.2.2.2.1 i j).map ad)))))
def m_ws (ad : Nat → Nat) (ca : Nat → ClassId) (h : m_H) : va_W := (List.range h.1).map (fun i => (ad i, m_cell ad ca h i))
def m_Sim (D : va_G) (A : Nat → Prop) (ad : Nat → Nat) (ca : Nat → ClassId) (h : m_H) (s : State) (H : Heap) : Prop :=
  va_P D vwCl (m_ws ad ca h) H ∧ va_D A (m_ws ad ca h) ∧ ∀ i, i < h.1 → 100 ≤ (h.2.1 i).1 → va_K D vwCl [(ca i, m_ty (h.2.1 i).1)] s
def m_tv (ad : Nat → Nat) (v : Value) : Value := match v with
  | .ref i => .ref (ad i)
  | w => w
theorem m_tv_cat (ad : Nat → Nat) (v : Value) : (m_tv ad v).category = v.category := by cases v <;> rfl
def m_loc (ad : Nat → Nat) (nL : Nat) (L : m_L) (ls : Array Slot) : Prop :=
  L.length = nL ∧ ls.size = nL ∧ lv_wf ls ∧ ∀ (i : Nat) (v : Value), L[i]? = some (some v) → v.category = 1 ∧ ls[i]? = some (.val (m_tv ad v))
def m_al (ad : Nat → Nat) (L : m_L) : List (Nat × Value) := (List.range L.length).filterMap (fun i => match L[i]? with
  | some (some v) => some (i, m_tv ad v)
  | _ => none)
theorem m_al_mem {ad : Nat → Nat} {L : m_L} {i : Nat} {v : Value} (h : L[i]? = some (some v)) : (i, m_tv ad v) ∈ m_al ad L := by
  unfold m_al
  refine List.mem_filterMap.mpr ⟨i, List.mem_range.mpr (List.getElem?_eq_some_iff.mp h).1, ?_⟩
  rw [h]
theorem m_al_of {ad : Nat → Nat} {L : m_L} {q : Nat × Value} (h : q ∈ m_al ad L) : ∃ v, L[q.1]? = some (some v) ∧ q.2 = m_tv ad v := by
  unfold m_al at h
  obtain ⟨i, -, hi⟩ := List.mem_filterMap.mp h
  split at hi
  · next v hv => cases hi; exact ⟨v, hv, rfl⟩
  · cases hi
theorem m_loc.at {ad : Nat → Nat} {nL : Nat} {L : m_L} {ls : Array Slot} (h : m_loc ad nL L ls) {i : Nat} {v : Value} (hv : L[i]? = some (some v)) : ls[i]? = some (.val (m_tv ad v)) := (h.2.2.2 i v hv).2
theorem m_loc.has {ad : Nat → Nat} {nL : Nat} {L : m_L} {ls : Array Slot} (h : m_loc ad nL L ls) : lv_has ls nL (m_al ad L) := by
  refine ⟨h.2.1, h.2.2.1, fun q hq => ?_⟩
  obtain ⟨v, h1, h2⟩ := m_al_of hq
  rw [h2]
  exact h.at h1
theorem m_loc.hasC {ad : Nat → Nat} {nL : Nat} {L : m_L} {ls : Array Slot} (h : m_loc ad nL L ls) {i : Nat} {v : Value} (hv : L[i]? = some (some v)) : lv_has ls nL ((i, m_tv ad v) :: m_al ad L) := by
  obtain ⟨h1, h2, h3⟩ := h.has
  refine ⟨h1, h2, fun q hq => ?_⟩
  rcases List.mem_cons.mp hq with rfl | hq
  · exact h.at hv
  · exact h3 q hq
theorem m_loc.set {ad : Nat → Nat} {nL : Nat} {L : m_L} {ls ls' : Array Slot} {X : List (Nat × Value)} {i : Nat} {v : Value} (h : m_loc ad nL L ls) (hX : ∀ q ∈ m_al ad L, q ∈ X) (hc : v.category = 1)
    (h' : lv_has ls' nL ((i, m_tv ad v) :: X.filter (fun q => !(q.1 == i) && !(q.1 + 1 == i && q.2.category == 2)))) : m_loc ad nL (L.set i (some v)) ls' := by
  obtain ⟨k1, k2, k3⟩ := h'
  refine ⟨by rw [List.length_set]; exact h.1, k1, k2, fun j w hw => ?_⟩
  by_cases hj : j = i
  · subst hj
    have hlt : j < L.length := by
      have := (List.getElem?_eq_some_iff.mp hw).1
      rwa [List.length_set] at this
    rw [List.getElem?_set_self hlt] at hw
    cases hw
    exact ⟨hc, k3 _ List.mem_cons_self⟩
  · rw [List.getElem?_set_ne (fun e => hj e.symm)] at hw
    have hcat := (h.2.2.2 j w hw).1
    refine ⟨hcat, k3 (j, m_tv ad w) (List.mem_cons_of_mem _ (List.mem_filter.mpr ⟨hX _ (m_al_mem hw), ?_⟩))⟩
    have h1 : (m_tv ad w).category = 1 := by rw [m_tv_cat]; exact hcat
    simp [hj, h1]
/-- the words of the tables that a method's start keeps -/
def m_isN (w : Cond) : Bool := match w with
  | .methodLinkNest .. => true
  | _ => false
def m_isC (w : Cond) : Bool := match w with
  | .castable .. => true
  | _ => false
def m_isO (w : Cond) : Bool := match w with
  | .arrayOver (.object _) => true
  | _ => false
def m_isD (w : Cond) : Bool := match w with
  | .declares _ => true
  | _ => false
def m_ok (w : Cond) : Bool := goodWord w || m_isN w || m_isC w || m_isO w || m_isD w
theorem m_wm {w : Cond} (h : m_ok w = true) {s U : State} (hW : s.WarmedH U.vm) {a a' : Array Value} (hb : w.before a s = true) : w.before a' U = true := by
  unfold m_ok at h
  simp only [Bool.or_eq_true] at h
  rcases h with (((h | h) | h) | h) | h
  · exact word_at hW (good_of_word h) hb
  · cases w <;> simp [m_isN] at h
    exact va_Nw.use rfl (va_Nw.warmM hW (va_Nw.of rfl hb))
  · cases w <;> simp [m_isC] at h
    exact va_Nw.use rfl (va_Nw.warmC hW (va_Nw.of rfl hb))
  · cases w <;> simp [m_isO] at h
    next ty =>
      cases ty <;> simp [m_isO] at h
      exact (va_AO.moved hW.alike (va_AO.of hb)).use
  · cases w <;> simp [m_isD] at h
    exact va_Nw.use rfl (va_Nw.warmD hW (va_Nw.of rfl hb))
/-- the texts of the class's throws, and the pairs of classes that are not castable -/
def m_strs : List (String × Nat × String) := [(RX10, 74, "no scene or letter is left"), (RX10, 87, "the script is locked"), (RX10, 108, "the scene is omitted or shot"), (RX10, 153, "it would go round"), (RX10, 158, "there are 8 people"), (RX10, 174, "there are 6 places"), (RX10, 183, "both places are one"), (RX10, 210, "the scene is on the board, or omitted"), (RX10, 218, "the day is over or full"), (RX10, 229, "the scene is not on the board, or shot"), (RX10, 240, "the day is over"), (RX10, 250, "there is no such place in a row"), (RX10, 275, "not on the day of now, or shot"), (RX10, 293, "the scene is not shot"), (RX10, 298, "it is the last day"), (RX10, 309, "there is no such one"), (RX10, 311, "a number is out of range")]
def m_ncs : List (String × String) := [("java/lang/IllegalStateException", "java/lang/IndexOutOfBoundsException"), ("java/lang/IllegalStateException", "java/lang/IllegalArgumentException"), ("java/lang/IllegalArgumentException", "java/lang/IndexOutOfBoundsException")]
def m_Env (A : Nat → Prop) (s : State) : Prop :=
  (∀ w ∈ lw_tbl, m_ok w = true → ∀ a : Array Value, w.before a s = true) ∧ (∀ q ∈ m_strs, ∃ a, vk_R q.1 q.2.1 q.2.2 a s) ∧ (∀ q ∈ m_ncs, va_Nc q.1 q.2 s) ∧
  vx_Zq Bundle.tN "UNASSIGNED_STACK" Bundle.steD A s s.heap ∧ vx_Zq Bundle.tN "SUPPRESSED_SENTINEL" Bundle.listD A s s.heap
theorem m_Env.go {A B : Nat → Prop} {s U : State} {H : Heap} {locs : List Loc} (h : m_Env A s) (hW : s.WarmedH U.vm) (hU : U.heap = H) (hS : va_S A s.heap H locs) (hBA : ∀ q, B q → A q) : m_Env B U := by
  obtain ⟨h1, h2, h3, h4, h5⟩ := h
  refine ⟨fun w hw hk a => m_wm hk hW (h1 w hw hk #[]), fun q hq => ?_, fun q hq => (h3 q hq).moved hW.alike, ?_, ?_⟩
  · obtain ⟨a, ha⟩ := h2 q hq
    exact ⟨a, ha.warm hW⟩
  · rw [hU]
    exact ((h4.moved hW.alike).kept (fun a x y => hS.2.1 a x y)).narrow hBA
  · rw [hU]
    exact ((h5.moved hW.alike).kept (fun a x y => hS.2.1 a x y)).narrow hBA
def m_Cx (D : va_G) (B : m_B) (p : Program) (s : State) (m : MethodId) (meth : Method) (c : Code) (R : Room) (A : Nat → Prop) : Prop :=
  p.tables.exec = Jvm.exec ∧ c.code = B.1.2.1 ∧ c.maxLocals = B.1.2.2.1 ∧ meth.sig.returnType = B.1.2.2.2.1 ∧ meth.locks = false ∧ s.vm.findClass B.1.1.cls = some m.cls ∧ c.exceptionTable.toList = tableOf B.1.2.2.2.2 ∧ meth.name = B.1.1.name ∧
  m_Env A s ∧ va_K D vwCl [] s ∧ B.2.1 ≤ R.frames ∧ 36 * B.2.1 ≤ R.locals ∧ ∀ q, s.heap.size ≤ q → A q
/-- the things that stood at the method's start stand where they stood -/
def m_Ag (n0 : Nat) (ad0 : Nat → Nat) (ca0 : Nat → ClassId) (h : m_H) (ad : Nat → Nat) (ca : Nat → ClassId) : Prop :=
  n0 ≤ h.1 ∧ (∀ i, i < n0 ∨ i = m_scr → ad i = ad0 i ∧ ca i = ca0 i) ∧ (h.1 = n0 → ad = ad0 ∧ ca = ca0)
def m_Qc (D : va_G) (A : Nat → Prop) (n0 : Nat) (ad0 : Nat → Nat) (ca0 : Nat → ClassId) (K : Option Value → m_H → Prop) : Array Value → State → Outcome → State → Prop := fun _ s o t =>
  ∃ (v : Option Value) (h : m_H) (ad : Nat → Nat) (ca : Nat → ClassId), o = .returned (v.map (m_tv ad)) ∧ K v h ∧ m_Ag n0 ad0 ca0 h ad ca ∧ m_Sim D A ad ca h t t.heap ∧ va_F A s t
def m_Xc (D : va_G) (A : Nat → Prop) (n0 : Nat) (ad0 : Nat → Nat) (ca0 : Nat → ClassId) (KX : String → m_H → Prop) : String → State → State → Prop := fun E s t =>
  ∃ (h : m_H) (ad : Nat → Nat) (ca : Nat → ClassId), KX E h ∧ m_Ag n0 ad0 ca0 h ad ca ∧ m_Sim D A ad ca h t t.heap ∧ va_F A s t
def m_G (l : Launch) (D : va_G) (b0 L0 : Nat) (xs : Nat → Int32) : m_P := fun B pc L st h rc rs =>
  ∀ (p : Program) (e : Env) (s : State) (m : MethodId) (args : Array Value) (below : List Frame) (meth : Method) (c : Code) (R : Room) (A : Nat → Prop) (H : Heap) (locs : List Loc) (cells slots : Nat) (ls : Array Slot) (ad : Nat → Nat) (ca : Nat → ClassId) (n0 : Nat) (ad0 : Nat → Nat) (ca0 : Nat → ClassId),
  m_Cx D B p s m meth c R A → cells + rc ≤ R.cells → slots + rs ≤ R.slots → m_Ag n0 ad0 ca0 h ad ca → (B.1.1 = yL_law → va_X b0 L0 xs s s.heap ∧ b0 < s.heap.size ∧ ¬ A b0 ∧ ad m_scr = b0) →
  m_Sim D A ad ca h s H → va_S A s.heap H locs → m_loc ad B.1.2.2.1 L ls →
  W p l e R s m args below meth c H locs cells slots (vx_MQ below (m_Qc D A n0 ad0 ca0 B.2.2.1) (m_Xc D A n0 ad0 ca0 B.2.2.2) args s R.cells R.slots A) (F0 m pc ls (st.map (m_tv ad)))
/-! the world as a list, by numbers -/
theorem m_ws_get {ad : Nat → Nat} {ca : Nat → ClassId} {h : m_H} {i : Nat} (hi : i < h.1) : (m_ws ad ca h)[i]? = some (ad i, m_cell ad ca h i) := by
  unfold m_ws
  rw [List.getElem?_map, List.getElem?_range hi]
  rfl
theorem m_ws_len {ad : Nat → Nat} {ca : Nat → ClassId} {h : m_H} : (m_ws ad ca h).length = h.1 := by simp [m_ws]
theorem m_ws_set {ad : Nat → Nat} {ca : Nat → ClassId} {h h' : m_H} (hn : h'.1 = h.1) {i : Nat} (e : va_E) (he : m_cell ad ca h' i = e) (ho : ∀ j, j ≠ i → m_cell ad ca h' j = m_cell ad ca h j) : m_ws ad ca h' = (m_ws ad ca h).set i (ad i, e) := by
  apply List.ext_getElem?
  intro j
  by_cases hj : j < h.1
  · rw [m_ws_get (by rw [hn]; exact hj)]
    by_cases hji : j = i
    · subst hji
      rw [List.getElem?_set_self (by rw [m_ws_len]; exact hj), he]
    · rw [List.getElem?_set_ne (fun q => hji q.symm), m_ws_get hj, ho j hji]
  · rw [List.getElem?_eq_none (by rw [m_ws_len, hn]; omega), List.getElem?_eq_none (by rw [List.length_set, m_ws_len]; omega)]
theorem m_fs_get {ad : Nat → Nat} {h : m_H} {i k : Nat} (hk : k < m_nf (h.2.1 i).1) : (m_fs ad h i)[k]? = some (if m_kd (h.2.1 i).1 k = 2 then va_rf ((h.2.2.2.1 i k).map ad) else .int (h.2.2.1 i k)) := by
  unfold m_fs
  rw [List.getElem?_map, List.getElem?_range hk]
  rfl
theorem m_fs_len {ad : Nat → Nat} {h : m_H} {i : Nat} : (m_fs ad h i).length = m_nf (h.2.1 i).1 := by simp [m_fs]
def m_up2 {α : Type} (f : Nat → Nat → α) (i k : Nat) (x : α) : Nat → Nat → α := fun a b => if a = i ∧ b = k then x else f a b
def m_upI (h : m_H) (i k : Nat) (x : Int32) : m_H := (h.1, h.2.1, m_up2 h.2.2.1 i k x, h.2.2.2.1, h.2.2.2.2)
def m_upR (h : m_H) (i k : Nat) (x : Option Nat) : m_H := (h.1, h.2.1, h.2.2.1, m_up2 h.2.2.2.1 i k x, h.2.2.2.2)
def m_upL (h : m_H) (i k : Nat) (x : Int64) : m_H := (h.1, h.2.1, h.2.2.1, h.2.2.2.1, m_up2 h.2.2.2.2 i k x)
theorem m_up2_row {α : Type} (f : Nat → Nat → α) {i j k : Nat} (x : α) (h : j ≠ i) : m_up2 f i k x j = f j := by
  funext b
  simp [m_up2, h]
theorem m_up2_self {α : Type} (f : Nat → Nat → α) (i k : Nat) (x : α) : m_up2 f i k x i = fun b => if b = k then x else f i b := by
  funext b
  simp [m_up2]
theorem m_cell_row {ad : Nat → Nat} {ca : Nat → ClassId} {h h' : m_H} {j : Nat} (h1 : h'.2.1 j = h.2.1 j) (h2 : h'.2.2.1 j = h.2.2.1 j) (h3 : h'.2.2.2.1 j = h.2.2.2.1 j) (h4 : h'.2.2.2.2 j = h.2.2.2.2 j) : m_cell ad ca h' j = m_cell ad ca h j := by
  unfold m_cell m_fs
  rw [h1, h2, h3, h4]
theorem m_cell_o {ad : Nat → Nat} {ca : Nat → ClassId} {h : m_H} {i : Nat} (hk : (h.2.1 i).1 < 100) : m_cell ad ca h i = .inr ((h.2.1 i).1, m_fs ad h i) := by
  unfold m_cell
  rw [if_pos hk]
theorem m_cell_i {ad : Nat → Nat} {ca : Nat → ClassId} {h : m_H} {i : Nat} (hk : 100 ≤ (h.2.1 i).1 ∧ (h.2.1 i).1 < 102) : m_cell ad ca h i = .inl (ca i, (h.2.1 i).2, .inl (h.2.2.1 i)) := by
  unfold m_cell
  rw [if_neg (by omega), if_pos hk.2]
theorem m_cell_l {ad : Nat → Nat} {ca : Nat → ClassId} {h : m_H} {i : Nat} (hk : (h.2.1 i).1 = 102) : m_cell ad ca h i = .inl (ca i, (h.2.1 i).2, .inr (.inl (h.2.2.2.2 i))) := by
  unfold m_cell
  rw [if_neg (by omega), if_neg (by omega), if_pos hk]
theorem m_cell_q {ad : Nat → Nat} {ca : Nat → ClassId} {h : m_H} {i : Nat} (hk : 103 ≤ (h.2.1 i).1) : m_cell ad ca h i = .inl (ca i, (h.2.1 i).2, .inr (.inr (.inr (.inr (fun j => (h.2.2.2.1 i j).map ad))))) := by
  unfold m_cell
  rw [if_neg (by omega), if_neg (by omega), if_neg (by omega)]
theorem m_Sim.moved {D : va_G} {A : Nat → Prop} {ad : Nat → Nat} {ca : Nat → ClassId} {h : m_H} {u U : State} {H : Heap} (hvm : u.vm.Alike U.vm) (hM : m_Sim D A ad ca h u H) : m_Sim D A ad ca h U H := ⟨hM.1, hM.2.1, fun i hi hk => (hM.2.2 i hi hk).moved hvm⟩
theorem m_Sim.mem {D : va_G} {A : Nat → Prop} {ad : Nat → Nat} {ca : Nat → ClassId} {h : m_H} {u : State} {H : Heap} (hM : m_Sim D A ad ca h u H) {i : Nat} (hi : i < h.1) : A (ad i) := hM.2.1.2 i _ (m_ws_get hi)
