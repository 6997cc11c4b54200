/-! calls, ends and throws -/
def m_A (ad : Nat → Nat) (n sz : Nat) : Nat → Prop := fun q => (∃ i, i < n ∧ q = ad i) ∨ sz ≤ q
theorem m_A_in {D : va_G} {A : Nat → Prop} {ad : Nat → Nat} {ca : Nat → ClassId} {h : m_H} {s : State} {H : Heap} {locs : List Loc} (hM : m_Sim D A ad ca h s H) (hS : va_S A s.heap H locs) (hA : ∀ q, s.heap.size ≤ q → A q) : ∀ q, m_A ad h.1 H.size q → A q := by
  intro q hq
  rcases hq with ⟨i, hi, rfl⟩ | hq
  · exact hM.mem hi
  · exact hA q (Nat.le_trans hS.1 hq)
theorem m_Sim_A {D : va_G} {A : Nat → Prop} {ad : Nat → Nat} {ca : Nat → ClassId} {h : m_H} {s : State} {H : Heap} (sz : Nat) (hM : m_Sim D A ad ca h s H) : m_Sim D (m_A ad h.1 sz) ad ca h s H := by
  refine ⟨hM.1, ⟨hM.2.1.1, fun k q hq => Or.inl ?_⟩, hM.2.2⟩
  have hlt := (List.getElem?_eq_some_iff.mp hq).1
  rw [m_ws_len] at hlt
  rw [m_ws_get hlt] at hq
  cases hq
  exact ⟨k, hlt, rfl⟩
def m_Pc (D : va_G) (ad : Nat → Nat) (ca : Nat → ClassId) (h : m_H) (sz : Nat) (vs : List Value) : Array Value → State → Prop :=
  va_Pc (vs.map (m_tv ad)) (fun U => U.heap.size = sz ∧ m_Env (m_A ad h.1 sz) U ∧ va_K D vwCl [] U ∧ m_Sim D (m_A ad h.1 sz) ad ca h U U.heap)
theorem m_Pc_blind {D : va_G} {ad : Nat → Nat} {ca : Nat → ClassId} {h : m_H} {sz : Nat} {vs : List Value} : FrameBlind (m_Pc D ad ca h sz vs) := by
  intro a U g mk ⟨h1, h2, h3, h4, h5⟩
  have hv : (U.calling g mk a).vm = U.vm := rfl
  have hW : U.WarmedH (U.calling g mk a).vm := by rw [hv]; exact State.WarmedH.refl U
  exact ⟨h1, h2, h3.go hW rfl va_S.rf (fun _ z => z), h4.moved hW.alike, h5.moved hW.alike⟩
theorem m_Pc_at {D : va_G} {A : Nat → Prop} {ad : Nat → Nat} {ca : Nat → ClassId} {h : m_H} {s : State} {H : Heap} {locs : List Loc} (hE : m_Env A s) (hK : va_K D vwCl [] s) (hM : m_Sim D A ad ca h s H) (hS : va_S A s.heap H locs) (hA : ∀ q, s.heap.size ≤ q → A q) (vs : List Value) :
    ∀ U : State, U.heap = H → s.WarmedH U.vm → m_Pc D ad ca h H.size vs (vs.map (m_tv ad)).toArray U := by
  intro U hU hW
  refine ⟨rfl, by rw [hU], hE.go hW hU hS (m_A_in hM hS hA), hK.moved hW.alike, ?_⟩
  rw [hU]
  exact (m_Sim_A H.size hM).moved hW.alike
def m_L0 (n : Nat) (vs : List Value) : m_L := vs.map some ++ List.replicate (n - vs.length) none
theorem m_sl1 {vs : List Value} (h : ∀ v ∈ vs, v.category = 1) : lg_sl vs = vs.map Slot.val := by
  induction vs with
  | nil => rfl
  | cons v vs ih =>
    have h1 : v.category = 1 := h v List.mem_cons_self
    have h2 := ih (fun w hw => h w (List.mem_cons_of_mem _ hw))
    unfold lg_sl at h2 ⊢
    rw [List.flatMap_cons, h2, if_neg (by omega)]
    rfl
theorem m_loc0 {ad : Nat → Nat} {n : Nat} {vs : List Value} (hc : ∀ v ∈ vs, v.category = 1) (hn : vs.length ≤ n) : m_loc ad n (m_L0 n vs) ((lg_sl (vs.map (m_tv ad)) ++ List.replicate (n - (lg_sl (vs.map (m_tv ad))).length) Slot.unset).toArray) := by
  have hc2 : ∀ v ∈ vs.map (m_tv ad), v.category = 1 := by
    intro v hv
    obtain ⟨w, hw, rfl⟩ := List.mem_map.mp hv
    rw [m_tv_cat]
    exact hc w hw
  have hs := m_sl1 hc2
  have hlen : (lg_sl (vs.map (m_tv ad))).length = vs.length := by rw [hs]; simp
  obtain ⟨e1, e2, -⟩ := lv_entry (vs.map (m_tv ad)) (n := n) (by rw [hlen]; exact hn)
  refine ⟨by simp [m_L0]; omega, e1, e2, fun i v hv => ?_⟩
  have hi : i < vs.length := by
    rcases Nat.lt_or_ge i vs.length with q | q
    · exact q
    · unfold m_L0 at hv
      rw [List.getElem?_append_right (by simpa using q)] at hv
      have := List.mem_of_getElem? hv
      simp at this
  unfold m_L0 at hv
  rw [List.getElem?_append_left (by simpa using hi), List.getElem?_map, List.getElem?_eq_getElem hi] at hv
  have hv2 : vs[i] = v := by simpa using hv
  have hmem : v ∈ vs := hv2 ▸ List.getElem_mem hi
  refine ⟨hc v hmem, ?_⟩
  rw [hs]
  rw [List.getElem?_toArray, List.getElem?_append_left (by simpa using hi), List.getElem?_map, List.getElem?_map, List.getElem?_eq_getElem hi, hv2]
  rfl
section CALLS
variable {l : Launch} {D : va_G} {b0 L0 : Nat} {xs : Nat → Int32}
theorem m_met {M : m_M} {d rc rs : Nat} {K : Option Value → m_H → Prop} {KX : String → m_H → Prop} {h : m_H} {vs : List Value} (ad : Nat → Nat) (ca : Nat → ClassId) (sz : Nat) (kk : m_G l D b0 L0 xs (M, d, K, KX) 0 (m_L0 M.2.2.1 vs) [] h rc rs)
    (htab : M.2.2.2.2 = []) (hpl : plainName M.1.cls = true) (hne : M.1 ≠ yL_law) (hc : ∀ v ∈ vs, v.category = 1) (hn : vs.length ≤ M.2.2.1) :
    vx_Met l M.1 [Cond.code M.1 M.2.1 M.2.2.1 M.2.2.2.1] { frames := d, cells := rc, slots := rs, locals := 36 * d } (m_Pc D ad ca h sz vs) (m_Qc D (m_A ad h.1 sz) h.1 ad ca K) (m_Xc D (m_A ad h.1 sz) h.1 ad ca KX) rc rs (m_A ad h.1 sz) := by
  refine vx_ofW (cc := M.2.1) (maxL := M.2.2.1) (ret := M.2.2.2.1) hpl rfl ?_
  intro p e s m args below meth c s₁ B9 hml ht hv
  obtain ⟨rfl, hsz, hE, hK, hM⟩ := hv
  subst hsz
  have htb : c.exceptionTable.toList = tableOf M.2.2.2.2 := by
    rw [htab]
    exact List.eq_nil_iff_forall_not_mem.mpr (fun x hx => ht x hx)
  have hnm := (name_of_methodNamed B9.named B9.method).1
  rw [lg_entry_eq]
  exact kk p e s m _ below meth c _ (m_A ad h.1 s.heap.size) s.heap [] 0 0 _ ad ca h.1 ad ca ⟨B9.exec, B9.bytes, hml, B9.returns, B9.notSynchronized, findClass_of_methodNamed B9.named, htb, hnm, hE, hK, Nat.le_refl _, Nat.le_refl _, fun q hq => Or.inr hq⟩ (by rw [Nat.zero_add]; exact Nat.le_refl _) (by rw [Nat.zero_add]; exact Nat.le_refl _) ⟨Nat.le_refl _, fun _ _ => ⟨rfl, rfl⟩, fun _ => ⟨rfl, rfl⟩⟩ (fun z => absurd z hne) hM va_S.rf (m_loc0 hc hn)
theorem m_metX {M : m_M} {d rc rs : Nat} {K : Option Value → m_H → Prop} {KX : String → m_H → Prop} {h : m_H} {vs : List Value} (ad : Nat → Nat) (ca : Nat → ClassId) (sz : Nat) (kk : m_G l D b0 L0 xs (M, d, K, KX) 0 (m_L0 M.2.2.1 vs) [] h rc rs)
    (hpl : plainName M.1.cls = true) (hne : M.1 ≠ yL_law) (hc : ∀ v ∈ vs, v.category = 1) (hn : vs.length ≤ M.2.2.1) :
    vx_Met l M.1 [Cond.codeWith M.1 M.2.1 M.2.2.1 M.2.2.2.1 M.2.2.2.2] { frames := d, cells := rc, slots := rs, locals := 36 * d } (m_Pc D ad ca h sz vs) (m_Qc D (m_A ad h.1 sz) h.1 ad ca K) (m_Xc D (m_A ad h.1 sz) h.1 ad ca KX) rc rs (m_A ad h.1 sz) := by
  refine vx_ofWH (cc := M.2.1) (maxL := M.2.2.1) (ret := M.2.2.2.1) (hh := M.2.2.2.2) hpl rfl ?_
  intro p e s m args below meth c s₁ B9 hml hv
  obtain ⟨rfl, hsz, hE, hK, hM⟩ := hv
  subst hsz
  have htb : c.exceptionTable.toList = tableOf M.2.2.2.2 := vx_table (x := M.1) B9 (atoms_spec (ws := [Cond.codeWith M.1 M.2.1 M.2.2.1 M.2.2.2.1 M.2.2.2.2]) B9.pre _ List.mem_cons_self)
  have hnm := (name_of_methodNamed B9.named B9.method).1
  rw [lg_entry_eq]
  exact kk p e s m _ below meth c _ (m_A ad h.1 s.heap.size) s.heap [] 0 0 _ ad ca h.1 ad ca ⟨B9.exec, B9.bytes, hml, B9.returns, B9.notSynchronized, findClass_of_methodNamed B9.named, htb, hnm, hE, hK, Nat.le_refl _, Nat.le_refl _, fun q hq => Or.inr hq⟩ (by rw [Nat.zero_add]; exact Nat.le_refl _) (by rw [Nat.zero_add]; exact Nat.le_refl _) ⟨Nat.le_refl _, fun _ _ => ⟨rfl, rfl⟩, fun _ => ⟨rfl, rfl⟩⟩ (fun z => absurd z hne) hM va_S.rf (m_loc0 hc hn)
/-- behind a call: it came back, or it threw -/
theorem m_go {p : Program} {e : Env} {s : State} {m : MethodId} {args : Array Value} {below : List Frame} {meth : Method} {c : Code} {R : Room} {A A1 : Nat → Prop} {H : Heap} {locs : List Loc} {cells slots mc ms pc : Nat} {ls : Array Slot} {st0 rest : List Value} {Q : State → Prop} {Qa : State → Outcome → State → Prop} {XC : String → State → State → Prop}
    (hr : vx_Run p l e R s m args below meth c H locs cells slots mc ms (F0 m pc ls st0) rest Qa XC A1) (hS : va_S A s.heap H locs) (hA1 : ∀ q, A1 q → A q) (hQF : ∀ st o t, Qa st o t → va_F A1 st t) (hXF : ∀ E st t, XC E st t → va_F A1 st t)
    (kx : ∀ (E : String) (ce : Cell) (q9 : Addr) (st t : State) (locs1 : List Loc), s.vm.Alike t.vm → XC E st t → va_S A s.heap t.heap locs1 → t.heap[q9]? = some ce → ce.vm = .none → s.vm.findClass E = some ce.cls → vx_W p l e R s m args below meth c t.heap locs1 (cells + mc) (slots + ms) Q (F0 m pc ls rest) q9)
    (kk : ∀ (v : Option Value) (st t : State) (locs1 : List Loc), s.vm.Alike t.vm → Qa st (.returned v) t → va_S A s.heap t.heap locs1 → W p l e R s m args below meth c t.heap locs1 (cells + mc) (slots + ms) Q (F0 m (pc + 3) ls (v.toList ++ rest))) : W p l e R s m args below meth c H locs cells slots Q (F0 m pc ls st0) := by
  intro T hT X
  rcases hr T hT X with ⟨v, st₀, t, T', L, h0, X', hL, e1, e2, hq, st⟩ | ⟨q, st₀, t, T', L, E, ce, h0, X', hL, e1, e2, hq, hce, hcv, hcl, st⟩
  · obtain ⟨k1, k2, k3⟩ := vx_keep h0 e1 hS (fun q _ z => hA1 q z) hA1 hL (hQF _ _ _ hq)
    rw [e1] at k3
    obtain ⟨t2, a1, b1⟩ := kk v st₀ t (locs ++ L) (by rw [← e2]; exact X'.warmed.alike) hq k3 T' e1 X'
    exact ⟨t2, st t2 a1, b1⟩
  · obtain ⟨k1, k2, k3⟩ := vx_keep h0 e1 hS (fun q _ z => hA1 q z) hA1 hL (hXF _ _ _ hq)
    rw [e1] at k3
    obtain ⟨t2, a1, b1⟩ := kx E ce q st₀ t (locs ++ L) (by rw [← e2]; exact X'.warmed.alike) hq k3 hce hcv hcl T' e1 X'
    exact ⟨t2, st.trans a1, b1⟩
/-- values that name things that stand -/
def m_vl1 (n : Nat) (v : Value) : Prop := ∀ i, v = .ref i → i < n ∨ i = m_scr
def m_vl (n : Nat) (L : m_L) (st : List Value) : Prop := (∀ (i : Nat) (v : Value), L[i]? = some (some v) → m_vl1 n v) ∧ ∀ v ∈ st, m_vl1 n v
theorem m_vl_tv {n : Nat} {ad ad' : Nat → Nat} {v : Value} (h : m_vl1 n v) (ha : ∀ i, i < n ∨ i = m_scr → ad' i = ad i) : m_tv ad' v = m_tv ad v := by
  cases v <;> try rfl
  next i => simp only [m_tv, ha i (h i rfl)]
/-- a handler of the table: what is thrown at pc ends the method with this number -/
def m_Hd (M : m_M) (pc : Nat) (E : String) (cn : Int32) : Prop := ∃ (pre suf : List ExceptionTableEntry) (x : ExceptionTableEntry) (name : String) (i len : Nat) (k : Int), tableOf M.2.2.2.2 = pre ++ x :: suf ∧
  (∀ z ∈ pre, covers z pc = false ∨ (z.catchType ≠ 0 ∧ ∃ nm : String, Cond.classLink M.1.cls z.catchType nm ∈ lw_tbl ∧ (E, nm) ∈ m_ncs)) ∧ covers x pc = true ∧ x.catchType ≠ 0 ∧ Cond.classLink M.1.cls x.catchType name ∈ lw_tbl ∧ Cond.castable E name ∈ lw_tbl ∧
  i < M.2.2.1 ∧ ((decode M.2.1 x.handlerPc = .ok (.astore i, 2) ∧ len = 2) ∨ (∃ j : Fin 4, decode M.2.1 x.handlerPc = .ok (.astore_n j, 1) ∧ (j : Nat) = i ∧ len = 1)) ∧ decode M.2.1 (x.handlerPc + len) = .ok (.iconst k, 1) ∧ Int32.ofInt k = cn ∧ decode M.2.1 (x.handlerPc + len + 1) = .ok (.ireturn, 1) ∧ M.2.2.2.1 = some .int
/-- behind a call, over the abstract heap -/
theorem m_after {B : m_B} {pc : Nat} {L : m_L} {st st9 : List Value} {h : m_H} {rc rs rc2 rs2 : Nat} {K2 : Option Value → m_H → Prop} {KX2 : String → m_H → Prop}
    (kk : ∀ v h2, K2 v h2 → (h2.1 = h.1 ∨ m_vl h.1 L st) ∧ m_G l D b0 L0 xs B (pc + 3) L (v.toList ++ st) h2 (rc - rc2) (rs - rs2))
    (kx : ∀ E h2, KX2 E h2 → h2.1 = h.1 ∧ ((B.1.2.2.2.2 = [] ∧ B.2.2.2 E h2) ∨ ∃ cn, m_Hd B.1 pc E cn ∧ B.2.2.1 (some (.int cn)) h2)) (hrc : rc2 ≤ rc) (hrs : rs2 ≤ rs)
    (p : Program) (e : Env) (s : State) (m : MethodId) (args : Array Value) (below : List Frame) (meth : Method) (c : Code) (R : Room) (A : Nat → Prop) (H : Heap) (locs : List Loc) (cells slots : Nat) (ls : Array Slot) (ad : Nat → Nat) (ca : Nat → ClassId) (n0 : Nat) (ad0 : Nat → Nat) (ca0 : Nat → ClassId)
    (hc : m_Cx D B p s m meth c R A) (h1 : cells + rc ≤ R.cells) (h2 : slots + rs ≤ R.slots) (ha : m_Ag n0 ad0 ca0 h ad ca) (hs : B.1.1 = yL_law → va_X b0 L0 xs s s.heap ∧ b0 < s.heap.size ∧ ¬ A b0 ∧ ad m_scr = b0)
    (hM : m_Sim D A ad ca h s H) (hS : va_S A s.heap H locs) (hl : m_loc ad B.1.2.2.1 L ls) {a9 : Array Value}
    (hr : vx_Run p l e R s m args below meth c H locs cells slots rc2 rs2 (F0 m pc ls st9) (st.map (m_tv ad)) (m_Qc D (m_A ad h.1 H.size) h.1 ad ca K2 a9) (m_Xc D (m_A ad h.1 H.size) h.1 ad ca KX2) (m_A ad h.1 H.size)) :
    W p l e R s m args below meth c H locs cells slots (vx_MQ below (m_Qc D A n0 ad0 ca0 B.2.2.1) (m_Xc D A n0 ad0 ca0 B.2.2.2) args s R.cells R.slots A) (F0 m pc ls st9) := by
  obtain ⟨hx, hb, hml, hr9, hlk, hown, htb, hin, hE, hK, hRf, hRl, hA⟩ := id hc
  have hAA := m_A_in hM hS hA
  have simA : ∀ {ad' : Nat → Nat} {ca' : Nat → ClassId} {g : m_H} {t : State}, s.vm.Alike t.vm → m_Sim D (m_A ad h.1 H.size) ad' ca' g t t.heap → m_Sim D A ad' ca' g s t.heap := fun hvm z => ⟨z.1, z.2.1.weaken (fun k q _ y => hAA q.1 y), fun i hi hk => (z.2.2 i hi hk).moved hvm.symm⟩
  refine m_go hr hS hAA (fun st o t ⟨_, _, _, _, _, _, _, _, z⟩ => z) (fun E st t ⟨_, _, _, _, _, _, z⟩ => z) ?_ ?_
  · intro E ce q9 stt t locs1 hvm ⟨g, ad', ca', hk, hag, hsim, hF⟩ hS1 hce hcv hcl
    obtain ⟨hg, hk2⟩ := kx E g hk
    obtain ⟨rfl, rfl⟩ := hag.2.2 hg
    have hsim' := simA hvm hsim
    have hag' : m_Ag n0 ad0 ca0 g ad' ca' := ⟨by rw [hg]; exact ha.1, ha.2.1, fun q => ha.2.2 (by rw [← hg]; exact q)⟩
    rcases hk2 with ⟨hnil, hKX⟩ | ⟨cn, ⟨pre, suf, x, name, i, len, k, e1, e2, e3, e4, e5, e6, e7, e8, e9, e10, e11, e12⟩, hKc⟩
    · refine vx_out (fun z hz => by rw [htb, hnil] at hz; cases hz) hlk hce hcv hcl (fun t2 ht2 hv2 => ?_) hS1.2.2 (by omega) (by omega)
      refine ⟨g, ad', ca', hKX, hag', ?_, ?_⟩
      · rw [ht2]; exact hsim'.moved hv2
      · exact hS1.F ht2
    · have fin : ∀ ls3 : Array Slot, W p l e R s m args below meth c t.heap locs1 (cells + rc2) (slots + rs2) (vx_MQ below (m_Qc D A n0 ad0 ca0 B.2.2.1) (m_Xc D A n0 ad0 ca0 B.2.2.2) args s R.cells R.slots A) (F0 m (x.handlerPc + len) ls3 []) := by
        intro ls3
        refine lv_iconst hx hb e9 e10 ?_
        refine W.widen (k := R.cells) (n := R.slots) (by omega) (by omega) (vx_ret ?_)
        refine W.iret hx hb (hr9.trans e12) (fun t2 ht2 hw2 => ?_) hS1.2.2 e11 hlk
        exact ⟨some (.int cn), g, ad', ca', rfl, hKc, hag', by rw [ht2]; exact hsim'.moved hw2.alike, hS1.F ht2⟩
      refine vx_catch (E := E) (name := name) hown pre x suf (htb.trans e1) (fun z hz => ?_) e3 e4 (hE.1 _ e5 rfl _) (hE.1 _ e6 rfl _) hce hcv hcl ?_
      · rcases e2 z hz with y | ⟨y1, nm, y2, y3⟩
        · exact Or.inl y
        · exact Or.inr ⟨y1, nm, hE.1 _ y2 rfl _, hE.2.2.1 _ y3⟩
      · rcases e8 with ⟨y1, rfl⟩ | ⟨j, y1, y2, rfl⟩
        · exact lv_astore hx hb y1 (lv' := _) hl.has (by rw [← hml]; rw [hml]; exact e7) rfl (fun ls3 _ => fin ls3)
        · exact lv_astore_n hx hb y1 rfl (lv' := _) hl.has (by rw [y2]; exact e7) rfl (fun ls3 _ => fin ls3)
  · intro v stt t locs1 hvm ⟨v2, g, ad', ca', hv, hk, hag, hsim, hF⟩ hS1
    cases hv
    obtain ⟨hor, kk2⟩ := kk v2 g hk
    have hsim' := simA hvm hsim
    have hst : (F0 m (pc + 3) ls ((Option.map (m_tv ad') v2).toList ++ st.map (m_tv ad)) : JFrame) = F0 m (pc + 3) ls ((v2.toList ++ st).map (m_tv ad')) ∧ m_Ag n0 ad0 ca0 g ad' ca' ∧ m_loc ad' B.1.2.2.1 L ls ∧ ad' m_scr = ad m_scr := by
      rcases hor with hg | ⟨hvL, hvS⟩
      · obtain ⟨rfl, rfl⟩ := hag.2.2 hg
        refine ⟨by cases v2 <;> simp, ⟨by rw [hg]; exact ha.1, ha.2.1, fun q => ha.2.2 (by rw [← hg]; exact q)⟩, hl, rfl⟩
      · have hadd : ∀ i, i < h.1 ∨ i = m_scr → ad' i = ad i := fun i hi => (hag.2.1 i hi).1
        have hmm : st.map (m_tv ad) = st.map (m_tv ad') := List.map_congr_left (fun w hw => (m_vl_tv (hvS w hw) hadd).symm)
        refine ⟨by rw [hmm]; cases v2 <;> simp, ⟨Nat.le_trans ha.1 hag.1, fun i hi => ?_, fun q => ?_⟩, ⟨hl.1, hl.2.1, hl.2.2.1, fun i w hw => ?_⟩, hadd _ (Or.inr rfl)⟩
        · obtain ⟨y1, y2⟩ := hag.2.1 i (by rcases hi with z | z; exact Or.inl (Nat.lt_of_lt_of_le z ha.1); exact Or.inr z)
          obtain ⟨y3, y4⟩ := ha.2.1 i hi
          exact ⟨y1.trans y3, y2.trans y4⟩
        · have q1 := ha.1
          have q2 := hag.1
          obtain ⟨y1, y2⟩ := hag.2.2 (by omega)
          obtain ⟨y3, y4⟩ := ha.2.2 (by omega)
          exact ⟨y1.trans y3, y2.trans y4⟩
        · rw [m_vl_tv (hvL i w hw) hadd]
          exact hl.2.2.2 i w hw
    obtain ⟨hst1, hag', hl', hsc⟩ := hst
    rw [hst1]
    exact kk2 p e s m args below meth c R A t.heap locs1 (cells + rc2) (slots + rs2) ls ad' ca' n0 ad0 ca0 hc (by omega) (by omega) hag' (fun z => by obtain ⟨y1, y2, y3, y4⟩ := hs z; exact ⟨y1, y2, y3, hsc.trans y4⟩) hsim' hS1 hl'
end CALLS
