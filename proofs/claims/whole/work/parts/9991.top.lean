-- NAME top
/-! THE CLAIM OUT OF ONE WALK OF THE LAW'S BODY. Your part is whole_start (and what it stands on); all else here is the same for every law, but numbers. -/
def R_law : String := "StripboardLaw"
def lw_P (b : Addr) (xs : List Int32) (args : Array Value) (s : State) : Prop := args = #[.ref b] ∧ s.IntsAt b xs ∧ xs.length ≤ 3072 ∧ (Jvm.Cond.and given_1 narrow_1).before args s = true
def lw_Q (_ : Array Value) (s : State) (o : Outcome) (t : State) : Prop := o = .returned (some (.int 1)) ∧ Framed s o t [] 618949 7239256
def lw_Z (below : List Frame) (a : Array Value) (s : State) : State → Prop := fun t => ∃ o, t.status = .running ∧ Ended t below o ∧ lw_Q a s o t
/-- what holds at the law's entry: the machine, the code, the tables' words (any of lw_tbl by 'hts w (by decide +kernel)'), the script of L ints xs at the cell b, what the Statement gives of the start (any of its parts by flat_of_before) -/
def lw_At (p : Program) (s : State) (m : MethodId) (meth : Method) (c : Code) (b L : Nat) (xs : Nat → Int32) : Prop :=
  p.tables.exec = Jvm.exec ∧ c.code = code ∧ meth.sig.returnType = ret ∧ c.maxLocals = 7 ∧ s.vm.findClass R_law = some m.cls ∧ (∀ w ∈ lw_tbl, w.before #[Value.ref b] s = true) ∧ va_X b L xs s s.heap ∧ b < s.heap.size ∧ meth.locks = false ∧ (Jvm.Cond.and given_1 narrow_1).before #[Value.ref b] s = true ∧ c.exceptionTable.toList = [] ∧ meth.name = "law"
theorem iw_0 : ∀ w ∈ u_ws RX0 TX0 5, w ∈ lw_tbl := by decide +kernel
theorem is_0 : Cond.instantiable RX0 5 ∈ lw_tbl := by
  obtain ⟨C, T, N, h, -, h2, -⟩ := nX10_30
  cases h
  exact h2
theorem iw_1 : ∀ w ∈ u_ws RX1 TX1 11, w ∈ lw_tbl := by decide +kernel
theorem is_1 : Cond.instantiable RX1 11 ∈ lw_tbl := by
  obtain ⟨C, T, N, h, -, h2, -⟩ := nX0_28
  cases h
  exact h2
theorem iw_2 : ∀ w ∈ u_ws RX2 TX2 5, w ∈ lw_tbl := by decide +kernel
theorem is_2 : Cond.instantiable RX2 5 ∈ lw_tbl := by
  obtain ⟨C, T, N, h, -, h2, -⟩ := nX10_16
  cases h
  exact h2
theorem iw_3 : ∀ w ∈ u_ws RX3 TX3 7, w ∈ lw_tbl := by decide +kernel
theorem is_3 : Cond.instantiable RX3 7 ∈ lw_tbl := by
  obtain ⟨C, T, N, h, -, h2, -⟩ := nX0_18
  cases h
  exact h2
theorem iw_4 : ∀ w ∈ u_ws RX4 TX4 3, w ∈ lw_tbl := by decide +kernel
theorem is_4 : Cond.instantiable RX4 3 ∈ lw_tbl := by
  obtain ⟨C, T, N, h, -, h2, -⟩ := nX10_39
  cases h
  exact h2
theorem iw_5 : ∀ w ∈ u_ws RX5 TX5 2, w ∈ lw_tbl := by decide +kernel
theorem is_5 : Cond.instantiable RX5 2 ∈ lw_tbl := by
  obtain ⟨C, T, N, h, -, h2, -⟩ := nX0_9
  cases h
  exact h2
theorem iw_6 : ∀ w ∈ u_ws RX6 TX6 4, w ∈ lw_tbl := by decide +kernel
theorem is_6 : Cond.instantiable RX6 4 ∈ lw_tbl := by
  obtain ⟨C, T, N, h, -, h2, -⟩ := nX10_48
  cases h
  exact h2
theorem iw_7 : ∀ w ∈ u_ws RX7 TX7 3, w ∈ lw_tbl := by decide +kernel
theorem is_7 : Cond.instantiable RX7 3 ∈ lw_tbl := by
  obtain ⟨C, T, N, h, -, h2, -⟩ := nX10_23
  cases h
  exact h2
theorem iw_8 : ∀ w ∈ u_ws RX8 TX8 16, w ∈ lw_tbl := by decide +kernel
theorem is_8 : Cond.instantiable RX8 16 ∈ lw_tbl := by
  obtain ⟨C, T, N, h, -, h2, -⟩ := nX9_9
  cases h
  exact h2
theorem iw_9 : ∀ w ∈ u_ws RX9 TX9 5, w ∈ lw_tbl := by decide +kernel
theorem is_9 : Cond.instantiable RX9 5 ∈ lw_tbl := by
  obtain ⟨C, T, N, h, -, h2, -⟩ := nX10_7
  cases h
  exact h2
theorem iw_10 : ∀ w ∈ u_ws RX10 TX10 6, w ∈ lw_tbl := by decide +kernel
theorem is_10 : Cond.instantiable RX10 6 ∈ lw_tbl := by
  obtain ⟨C, T, N, h, -, h2, -⟩ := nL_8
  cases h
  exact h2
theorem iw_11 : ∀ w ∈ u_ws RX11 TX11 41, w ∈ lw_tbl := by decide +kernel
theorem is_11 : Cond.instantiable RX11 41 ∈ lw_tbl := by
  obtain ⟨C, T, N, h, -, h2, -⟩ := nL_99
  cases h
  exact h2
theorem cl_all {s : State} {args : Array Value} (hts : ∀ w ∈ lw_tbl, w.before args s = true) : ∃ (dC : Nat → ClassId) (dI : Nat → Nat → Nat), ∀ (k : Nat) (q : vw_C), vwCl[k]? = some q → u_Kn s q.1 q.2.1 q.2.2 (dC k) (dI k) := by
  obtain ⟨c0, i0, h0⟩ := u_known (C := RX0) (T := TX0) (N := 5) (n := 5) hts iw_0 (hts _ is_0)
  obtain ⟨c1, i1, h1⟩ := u_known (C := RX1) (T := TX1) (N := 11) (n := 11) hts iw_1 (hts _ is_1)
  obtain ⟨c2, i2, h2⟩ := u_known (C := RX2) (T := TX2) (N := 5) (n := 5) hts iw_2 (hts _ is_2)
  obtain ⟨c3, i3, h3⟩ := u_known (C := RX3) (T := TX3) (N := 7) (n := 7) hts iw_3 (hts _ is_3)
  obtain ⟨c4, i4, h4⟩ := u_known (C := RX4) (T := TX4) (N := 3) (n := 3) hts iw_4 (hts _ is_4)
  obtain ⟨c5, i5, h5⟩ := u_known (C := RX5) (T := TX5) (N := 2) (n := 2) hts iw_5 (hts _ is_5)
  obtain ⟨c6, i6, h6⟩ := u_known (C := RX6) (T := TX6) (N := 4) (n := 4) hts iw_6 (hts _ is_6)
  obtain ⟨c7, i7, h7⟩ := u_known (C := RX7) (T := TX7) (N := 3) (n := 3) hts iw_7 (hts _ is_7)
  obtain ⟨c8, i8, h8⟩ := u_known (C := RX8) (T := TX8) (N := 16) (n := 16) hts iw_8 (hts _ is_8)
  obtain ⟨c9, i9, h9⟩ := u_known (C := RX9) (T := TX9) (N := 5) (n := 5) hts iw_9 (hts _ is_9)
  obtain ⟨c10, i10, h10⟩ := u_known (C := RX10) (T := TX10) (N := 6) (n := 6) hts iw_10 (hts _ is_10)
  obtain ⟨c11, i11, h11⟩ := u_known (C := RX11) (T := TX11) (N := 41) (n := 41) hts iw_11 (hts _ is_11)
  have h : ∀ k : Nat, ∃ c : ClassId, ∃ iS : Nat → Nat, ∀ q : vw_C, vwCl[k]? = some q → u_Kn s q.1 q.2.1 q.2.2 c iS := by
    intro k
    match k with
    | 0 => exact ⟨c0, i0, (fun q hq => by cases hq; exact h0)⟩
    | 1 => exact ⟨c1, i1, (fun q hq => by cases hq; exact h1)⟩
    | 2 => exact ⟨c2, i2, (fun q hq => by cases hq; exact h2)⟩
    | 3 => exact ⟨c3, i3, (fun q hq => by cases hq; exact h3)⟩
    | 4 => exact ⟨c4, i4, (fun q hq => by cases hq; exact h4)⟩
    | 5 => exact ⟨c5, i5, (fun q hq => by cases hq; exact h5)⟩
    | 6 => exact ⟨c6, i6, (fun q hq => by cases hq; exact h6)⟩
    | 7 => exact ⟨c7, i7, (fun q hq => by cases hq; exact h7)⟩
    | 8 => exact ⟨c8, i8, (fun q hq => by cases hq; exact h8)⟩
    | 9 => exact ⟨c9, i9, (fun q hq => by cases hq; exact h9)⟩
    | 10 => exact ⟨c10, i10, (fun q hq => by cases hq; exact h10)⟩
    | 11 => exact ⟨c11, i11, (fun q hq => by cases hq; exact h11)⟩
    | k + 12 => exact ⟨c0, i0, (fun q hq => by cases hq)⟩
  obtain ⟨dC, h1⟩ := Classical.axiomOfChoice h
  obtain ⟨dI, h2⟩ := Classical.axiomOfChoice h1
  exact ⟨dC, dI, h2⟩
/-- what was written is new: nothing old was -/
theorem but_new {s t : State} {L : List Loc} {k n : Nat} (h : s.sameButNew t L k n) (hL : ∀ q ∈ L, s.heap.size ≤ q.base) : s.sameButNew t [] k n := by
  obtain ⟨h1, h2, h3, h4, h5, h6⟩ := h
  refine ⟨h1, h2, h3, h4, h5, fun a c hc => ?_⟩
  obtain ⟨c2, g1, g2, g3, g4⟩ := h6 a c hc
  refine ⟨c2, g1, g2, g3, fun i _ => g4 i (fun hm => ?_)⟩
  have e1 : s.heap.size ≤ a := hL _ hm
  have e2 : a < s.heap.size := (Array.getElem?_eq_some_iff.mp hc).1
  exact absurd e2 (Nat.not_lt.mpr e1)
/-- .. (the flags: no stack traces) -/
theorem whole_start {p : Program} {e : Env} {s : State} {m : MethodId} {below : List Frame} {meth : Method} {c : Code} (l : Launch) (hflags : l.flags = flags0) {b L : Nat} {xs : Nat → Int32} (hL : L ≤ 3072) (C0 : lw_At p s m meth c b L xs) : W p l e room_1 s m #[Value.ref b] below meth c s.heap [] 0 0 (lw_Z below #[Value.ref b] s) (entryFrame m ([Value.ref b] : List Value).toArray 7) := by
  obtain ⟨hx, hb, hr, hml, hown, hts, hX, hbl, hlocks, hgv, htb, hnm⟩ := id C0
  have hlt : l.stackTraces = false := by
    unfold Launch.stackTraces
    rw [hflags]
    decide +kernel
  have hs := flat_of_before _ hgv
  obtain ⟨dC, dI, hKc⟩ := cl_all hts
  obtain ⟨A, hA⟩ : ∃ A : Nat → Prop, A = fun q => s.heap.size ≤ q := ⟨_, rfl⟩
  have hAn : ∀ a : Nat, a < s.heap.size → ¬ A a := fun a h => by rw [hA]; exact Nat.not_le.mpr h
  have sr : ∀ (k : Nat) (tx : String), (Cond.stringRef RX10 k tx).before #[Value.ref b] s = true → (Cond.exactly (.string RX10 k) "java/lang/String").before #[Value.ref b] s = true → ∃ a, vk_R RX10 k tx a s := fun k tx h1 h2 => by
    obtain ⟨a, _, _, _, ha, -⟩ := Cond.exactly_spec h2
    exact ⟨a, vk_R.of h1 ha⟩
  have hstr : ∀ q ∈ m_strs, ∃ a, vk_R q.1 q.2.1 q.2.2 a s := by
    unfold m_strs
    exact List.forall_mem_cons.mpr ⟨sr 74 "no scene or letter is left" (hts _ (by decide +kernel)) (hs _ (by decide +kernel)), List.forall_mem_cons.mpr ⟨sr 87 "the script is locked" (hts _ (by decide +kernel)) (hs _ (by decide +kernel)), List.forall_mem_cons.mpr ⟨sr 108 "the scene is omitted or shot" (hts _ (by decide +kernel)) (hs _ (by decide +kernel)), List.forall_mem_cons.mpr ⟨sr 153 "it would go round" (hts _ (by decide +kernel)) (hs _ (by decide +kernel)), List.forall_mem_cons.mpr ⟨sr 158 "there are 8 people" (hts _ (by decide +kernel)) (hs _ (by decide +kernel)), List.forall_mem_cons.mpr ⟨sr 174 "there are 6 places" (hts _ (by decide +kernel)) (hs _ (by decide +kernel)), List.forall_mem_cons.mpr ⟨sr 183 "both places are one" (hts _ (by decide +kernel)) (hs _ (by decide +kernel)), List.forall_mem_cons.mpr ⟨sr 210 "the scene is on the board, or omitted" (hts _ (by decide +kernel)) (hs _ (by decide +kernel)), List.forall_mem_cons.mpr ⟨sr 218 "the day is over or full" (hts _ (by decide +kernel)) (hs _ (by decide +kernel)), List.forall_mem_cons.mpr ⟨sr 229 "the scene is not on the board, or shot" (hts _ (by decide +kernel)) (hs _ (by decide +kernel)), List.forall_mem_cons.mpr ⟨sr 240 "the day is over" (hts _ (by decide +kernel)) (hs _ (by decide +kernel)), List.forall_mem_cons.mpr ⟨sr 250 "there is no such place in a row" (hts _ (by decide +kernel)) (hs _ (by decide +kernel)), List.forall_mem_cons.mpr ⟨sr 275 "not on the day of now, or shot" (hts _ (by decide +kernel)) (hs _ (by decide +kernel)), List.forall_mem_cons.mpr ⟨sr 293 "the scene is not shot" (hts _ (by decide +kernel)) (hs _ (by decide +kernel)), List.forall_mem_cons.mpr ⟨sr 298 "it is the last day" (hts _ (by decide +kernel)) (hs _ (by decide +kernel)), List.forall_mem_cons.mpr ⟨sr 309 "there is no such one" (hts _ (by decide +kernel)) (hs _ (by decide +kernel)), List.forall_mem_cons.mpr ⟨sr 311 "a number is out of range" (hts _ (by decide +kernel)) (hs _ (by decide +kernel)), fun _ h => absurd h List.not_mem_nil⟩⟩⟩⟩⟩⟩⟩⟩⟩⟩⟩⟩⟩⟩⟩⟩⟩
  have hncs : ∀ q ∈ m_ncs, va_Nc q.1 q.2 s := by
    unfold m_ncs
    exact List.forall_mem_cons.mpr ⟨va_Nc.of (hs (Cond.not (.castable "java/lang/IllegalStateException" "java/lang/IndexOutOfBoundsException")) (by decide +kernel)), List.forall_mem_cons.mpr ⟨va_Nc.of (hs (Cond.not (.castable "java/lang/IllegalStateException" "java/lang/IllegalArgumentException")) (by decide +kernel)), List.forall_mem_cons.mpr ⟨va_Nc.of (hs (Cond.not (.castable "java/lang/IllegalArgumentException" "java/lang/IndexOutOfBoundsException")) (by decide +kernel)), fun _ h => absurd h List.not_mem_nil⟩⟩⟩
  have hE : m_Env A s := ⟨fun w hw hk a => m_wm hk (State.WarmedH.refl s) (hts w hw), hstr, hncs, vx_Zqof (args := #[Value.ref b]) (hts _ (by decide +kernel)) (hts _ (by decide +kernel)) (hs _ (by decide +kernel)) hAn, vx_Zqof (args := #[Value.ref b]) (hts _ (by decide +kernel)) (hts _ (by decide +kernel)) (hs _ (by decide +kernel)) hAn⟩
  have hK : va_K (dC, dI) vwCl [] s := ⟨hKc, fun k q h => by simp at h⟩
  have hC : m_Cx (dC, dI) lB p s m meth c room_1 A := ⟨hx, hb, hml, hr, hlocks, hown, htb, hnm, hE, hK, by decide, by decide, fun q h => by rw [hA]; exact h⟩
  obtain ⟨ad, had⟩ : ∃ ad : Nat → Nat, ad = fun i => if i = m_scr then b else 0 := ⟨_, rfl⟩
  have hab : ad m_scr = b := by rw [had]; exact if_pos rfl
  have hM : m_Sim (dC, dI) A ad (fun _ => dC 0) (hq 0 z0 r0) s s.heap := ⟨(fun k q h => by cases h), ⟨(fun i j p q h => by cases h), (fun k q h => by cases h)⟩, fun i hi => absurd hi (Nat.not_lt_zero i)⟩
  have hl := m_loc0 (ad := ad) (n := 7) (vs := [Value.ref m_scr]) (fun v hv => by
    simp only [List.mem_cons, List.not_mem_nil, or_false] at hv
    rw [hv]
    rfl) (by decide)
  have e1 : [Value.ref m_scr].map (m_tv ad) = [Value.ref b] := by
    show [Value.ref (ad m_scr)] = _
    rw [hab]
  rw [e1] at hl
  rw [lg_entry_eq]
  have hg := m_snd (D := (dC, dI)) (b0 := b) hlt (law_start (S := (L, xs)) hL)
  have hw := hg p e s m #[Value.ref b] below meth c room_1 A s.heap [] 0 0 _ ad (fun _ => dC 0) 0 ad (fun _ => dC 0) hC (by decide) (by decide) ⟨Nat.le_refl _, fun _ _ => ⟨rfl, rfl⟩, fun _ => ⟨rfl, rfl⟩⟩ (fun _ => ⟨hX, hbl, hAn b hbl, hab⟩) hM va_S.rf hl
  intro T hT X
  obtain ⟨t, a1, o, b1, b2, b3⟩ := hw T hT X
  rcases b3 with ⟨⟨v, g, ad2, ca2, ho, hv, -⟩, L2, hF, hq⟩ | ⟨q, -, hz⟩
  · have hv2 : v = some (.int 1) := hv
    subst hv2
    refine ⟨t, a1, o, b1, b2, ho, hF.1, hF.2.1, but_new hF.2.2 (fun q hq2 => ?_)⟩
    have := hq q hq2
    rw [hA] at this
    exact this
  · obtain ⟨E, ce, L2, hxc, -⟩ := hz
    obtain ⟨g, ad2, ca2, hf, -⟩ := hxc
    exact hf.elim
set_option maxHeartbeats 4000000 in
theorem lw_walk (l : Launch) (hflags : l.flags = flags0) (b : Addr) (xs : List Int32) : MetFree l x (headSpec (Jvm.Cond.code x code maxLocals ret :: tables_1) room_1) (lw_P b xs) (fun _ _ _ _ _ => True) lw_Q := by
  refine MetFree.of_bodyS (code := code) (maxLocals := maxLocals) (ret := ret) (by decide) ?_ ?_
  · intro args s m h hn
    obtain ⟨meth, c, h1, h2, h3, h4, h5, h6, -, -⟩ := Cond.code_spec hn (atoms_spec (ws := Jvm.Cond.code x code maxLocals ret :: tables_1) h _ List.mem_cons_self)
    exact ⟨meth, c, h1, h2, h3, h4, h5, h6⟩
  · intro p e s m args below meth c s₁ B hml0 hP _
    obtain ⟨rfl, hx, hbd, hgv⟩ := hP
    obtain ⟨scr, harrAt, hlist, hof, hsmall⟩ := hx
    obtain ⟨hcb, hkn, -, -⟩ := State.arrayAt?_spec harrAt
    have hown : s.vm.findClass R_law = some m.cls := findClass_of_methodNamed B.named
    have hts0 : ∀ c ∈ (Jvm.Cond.code x code maxLocals ret :: tables_1), c.before #[Value.ref b] s = true := atoms_spec (ws := Jvm.Cond.code x code maxLocals ret :: tables_1) B.pre
    have hts : ∀ w ∈ lw_tbl, w.before #[Value.ref b] s = true := k2_hts_sels lw_privs (fun w hw => hts0 w (List.mem_cons_of_mem _ hw)) lw_privs_ok
    have hml : c.maxLocals = 7 := B.maxLocals_eq (hts0 _ List.mem_cons_self)
    have X₀ : Stand p l e room_1 s m #[Value.ref b] below meth c s₁ [] 0 0 := Stand.of_body B
    have hh0 : s₁.heap = s.heap := by rw [B.state]; rfl
    have htb : c.exceptionTable.toList = [] := by
      obtain ⟨meth9, c9, h1, h2, -, -, -, -, h7, -⟩ := Cond.code_spec B.named (hts0 _ List.mem_cons_self)
      cases Option.some.inj (h1.symm.trans B.method)
      cases Option.some.inj (h2.symm.trans (Stand.of_body B).code)
      rw [Array.isEmpty_iff.mp h7]
    have hsz : scr.slots.size = xs.length := by rw [← Array.length_toList, hlist, List.length_map]
    have hval : ∀ j : Nat, j < xs.length → scr.slots[j]? = some (.int (xs.getD j 0)) := fun j hj => by
      rw [← Array.getElem?_toList, hlist]
      simp [hj]
    have hbl : b < s.heap.size := (Array.getElem?_eq_some_iff.mp hcb).1
    have hX : va_X b xs.length (fun j => xs.getD j 0) s s.heap := ⟨scr, hcb, hof, hkn, hsz, hval⟩
    have K : W p l e room_1 s m #[Value.ref b] below meth c s₁.heap [] 0 0 (lw_Z below #[Value.ref b] s) (entryFrame m ([Value.ref b] : List Value).toArray 7) := by
      rw [hh0]
      exact whole_start l hflags hbd ⟨B.exec, B.bytes, B.returns, hml, hown, hts, hX, hbl, B.notSynchronized, hgv, htb, (name_of_methodNamed B.named B.method).1⟩
    obtain ⟨t, a1, o, b1, b2, b3⟩ := K s₁ rfl X₀
    exact ⟨t, o, a1, b1, b2, b3⟩
theorem lw_pre_spec {args : Array Value} {s : State} (h : (Jvm.Cond.and given_1 narrow_1).before args s = true) (hr : rest_1_c.before args s = true) : ∃ (b : Addr) (xs : List Int32), lw_P b xs args s := by
  have hs := flat_of_before _ h
  have hq := flat_of_before _ hr
  have hc : (Cond.count 1).before args s = true := hs _ (by decide +kernel)
  have harr : (Cond.arrayOf (.arg 0) .int).before args s = true := hs _ (by decide +kernel)
  have hle : (Cond.le (.length (.arg 0)) (.int 3072)).before args s = true := hs _ (by decide +kernel)
  have hlen : (Cond.isInt (.length (.arg 0))).before args s = true := hq _ (by decide +kernel)
  have hall : (Cond.all (.arg 0) (.isInt (.elem (.arg 0) (.index 0)))).before args s = true := hq _ (by decide +kernel)
  obtain ⟨b, xs, hb, hx⟩ := State.ints_of_pre rfl harr hlen hall
  have hsm : xs.length < 2 ^ 31 := hx.choose_spec.2.2.2
  have hev : (Term.length (.arg 0)).eval args s none [] s = some (.int xs.length.toInt32) := hx.length_eval hb
  have hv := Cond.le_ints hev (show (Term.int 3072).eval args s none [] s = some (.int 3072) from rfl)
  have hd : xs.length.toInt32 ≤ 3072 := by
    simpa [Cond.before, Cond.holds, hv] using hle
  have hN : xs.length ≤ 3072 := (Int32.ofNat_le_ofNat hsm (by decide)).mp (show Int32.ofNat xs.length ≤ Int32.ofNat 3072 from hd)
  exact ⟨b, xs, Cond.one_arg hc (show args[0]? = some (.ref b) from hb), hx, hN, h⟩
theorem lw_comes (l : Launch) (hflags : l.flags = flags0) : Comes l x (Jvm.Cond.code x code maxLocals ret :: tables_1) room_1 (fun tb e args s => Calls_1 tb e args s ∧ rest_1 tb e args s ∧ Pre_1 tb e args s)
    (fun _ _ args s o t => lw_Q args s o t) := by
  intro p e ha hc hk s m args below hf hfit hheap happ hpre
  obtain ⟨b, xs, hP⟩ := lw_pre_spec hpre.2.2 hpre.2.1
  obtain ⟨k, o, h1, h2, h3, hQ⟩ := lw_walk l hflags b xs p e ha hc hk s m args below hf ((Spec.applies_iff_loose hf).mp happ).1 hP trivial
  exact ⟨k, o, h1, h2, h3, hQ⟩
theorem lw_frame {s t : State} {o : Outcome} {args : Array Value} (h : Framed s o t [] 618949 7239256) :
    Framed s o t (fieldLocs frame_1_writes args s ++ arrayLocs frame_1_arrays args s ++ staticLocs frame_1_statics s) 618949 7239256 := h
theorem lw_limb (L : Cond) (hL : ∀ (args : Array Value) (s t : State), L.after args s (.returned (some (.int 1))) t = true) :
    ArmFor flags0 classFile x code maxLocals ret World_1 tables_1 room_1 Calls_1 rest_1 Pre_1
      (fun tb e a s o t => postC L tb e a s o t ∧ Framed s o t (fieldLocs frame_1_writes a s ++ arrayLocs frame_1_arrays a s ++ staticLocs frame_1_statics s) 618949 7239256) := by
  intro l hflags _ _ p e ha hc hk s m args below hf hfit hheap happ hpre
  obtain ⟨k, o, h1, h2, h3, rfl, hF⟩ := lw_comes l hflags p e ha hc hk s m args below hf hfit hheap happ hpre
  exact ⟨k, _, h1, h2, h3, hL args s _, lw_frame hF⟩
theorem i_vc : Claimed_1_1 ∧ Claimed_1_2 := ⟨lw_limb limb_1_1 (fun args s t => by simp [limb_1_1, Cond.after, Cond.holds, Cond.value]), lw_limb limb_1_2 (fun args s t => Cond.after_iff.mpr (by
  first | (rw [show limb_1_2 = Cond.eq .result (.int 1) from rfl, Cond.eq_ints (x := 1) (y := 1) rfl rfl]; simp; done) | (simp [limb_1_2, Cond.value, Term.eval]; done)))⟩

