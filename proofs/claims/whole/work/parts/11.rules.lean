section RULES
variable {l : Launch} {D : va_G} {b0 L0 : Nat} {xs : Nat → Int32}
def r_iconst (P : m_P) : Prop := ∀ (B : m_B) (pc : Nat) (L : m_L) (st : List Value) (h : m_H) (rc rs : Nat) (k : Int) (v : Int32), decode B.1.2.1 pc = .ok (.iconst k, 1) → Int32.ofInt k = v → P B (pc + 1) L (.int v :: st) h rc rs → P B pc L st h rc rs
theorem g_iconst : r_iconst (m_G l D b0 L0 xs) := by
  intro B pc L st h rc rs k v hd hv kk p e s m args below meth c R A H locs cells slots ls ad ca n0 ad0 ca0 hc h1 h2 ha hs hM hS hl
  obtain ⟨hx, hb, hml, hr, hlk, hown, htb, hin, hE, hK, hRf, hRl, hA⟩ := id hc
  exact lv_iconst hx hb hd hv (kk p e s m args below meth c R A H locs cells slots ls ad ca n0 ad0 ca0 hc h1 h2 ha hs hM hS hl)
def r_bipush (P : m_P) : Prop := ∀ (B : m_B) (pc : Nat) (L : m_L) (st : List Value) (h : m_H) (rc rs : Nat) (k : Int) (v : Int32), decode B.1.2.1 pc = .ok (.bipush k, 2) → (Int8.ofInt k).toInt32 = v → P B (pc + 2) L (.int v :: st) h rc rs → P B pc L st h rc rs
theorem g_bipush : r_bipush (m_G l D b0 L0 xs) := by
  intro B pc L st h rc rs k v hd hv kk p e s m args below meth c R A H locs cells slots ls ad ca n0 ad0 ca0 hc h1 h2 ha hs hM hS hl
  obtain ⟨hx, hb, hml, hr, hlk, hown, htb, hin, hE, hK, hRf, hRl, hA⟩ := id hc
  exact lv_bipush hx hb hd hv (kk p e s m args below meth c R A H locs cells slots ls ad ca n0 ad0 ca0 hc h1 h2 ha hs hM hS hl)
def r_sipush (P : m_P) : Prop := ∀ (B : m_B) (pc : Nat) (L : m_L) (st : List Value) (h : m_H) (rc rs : Nat) (k : Int) (v : Int32), decode B.1.2.1 pc = .ok (.sipush k, 3) → (Int16.ofInt k).toInt32 = v → P B (pc + 3) L (.int v :: st) h rc rs → P B pc L st h rc rs
theorem g_sipush : r_sipush (m_G l D b0 L0 xs) := by
  intro B pc L st h rc rs k v hd hv kk p e s m args below meth c R A H locs cells slots ls ad ca n0 ad0 ca0 hc h1 h2 ha hs hM hS hl
  obtain ⟨hx, hb, hml, hr, hlk, hown, htb, hin, hE, hK, hRf, hRl, hA⟩ := id hc
  exact lv_sipush hx hb hd hv (kk p e s m args below meth c R A H locs cells slots ls ad ca n0 ad0 ca0 hc h1 h2 ha hs hM hS hl)
def r_lconst (P : m_P) : Prop := ∀ (B : m_B) (pc : Nat) (L : m_L) (st : List Value) (h : m_H) (rc rs : Nat) (k : Fin 2) (v : Int64), decode B.1.2.1 pc = .ok (.lconst k, 1) → Int64.ofNat (k : Nat) = v → P B (pc + 1) L (.long v :: st) h rc rs → P B pc L st h rc rs
theorem g_lconst : r_lconst (m_G l D b0 L0 xs) := by
  intro B pc L st h rc rs k v hd hv kk p e s m args below meth c R A H locs cells slots ls ad ca n0 ad0 ca0 hc h1 h2 ha hs hM hS hl
  obtain ⟨hx, hb, hml, hr, hlk, hown, htb, hin, hE, hK, hRf, hRl, hA⟩ := id hc
  exact lv_lconst hx hb hd hv (kk p e s m args below meth c R A H locs cells slots ls ad ca n0 ad0 ca0 hc h1 h2 ha hs hM hS hl)
def r_ldc (P : m_P) : Prop := ∀ (B : m_B) (pc : Nat) (L : m_L) (st : List Value) (h : m_H) (rc rs : Nat) (k : Nat) (v : Int32), decode B.1.2.1 pc = .ok (.ldc k, 2) → Cond.constant B.1.1.cls k v ∈ lw_tbl → P B (pc + 2) L (.int v :: st) h rc rs → P B pc L st h rc rs
theorem g_ldc : r_ldc (m_G l D b0 L0 xs) := by
  intro B pc L st h rc rs k v hd hw kk p e s m args below meth c R A H locs cells slots ls ad ca n0 ad0 ca0 hc h1 h2 ha hs hM hS hl
  obtain ⟨hx, hb, hml, hr, hlk, hown, htb, hin, hE, hK, hRf, hRl, hA⟩ := id hc
  exact lv_ldc hx hb hown (hE.1 _ hw rfl _) hd (kk p e s m args below meth c R A H locs cells slots ls ad ca n0 ad0 ca0 hc h1 h2 ha hs hM hS hl)
def r_ldcw (P : m_P) : Prop := ∀ (B : m_B) (pc : Nat) (L : m_L) (st : List Value) (h : m_H) (rc rs : Nat) (k : Nat) (v : Int32), decode B.1.2.1 pc = .ok (.ldc_w k, 3) → Cond.constant B.1.1.cls k v ∈ lw_tbl → P B (pc + 3) L (.int v :: st) h rc rs → P B pc L st h rc rs
theorem g_ldcw : r_ldcw (m_G l D b0 L0 xs) := by
  intro B pc L st h rc rs k v hd hw kk p e s m args below meth c R A H locs cells slots ls ad ca n0 ad0 ca0 hc h1 h2 ha hs hM hS hl
  obtain ⟨hx, hb, hml, hr, hlk, hown, htb, hin, hE, hK, hRf, hRl, hA⟩ := id hc
  exact lv_ldcw hx hb hown (hE.1 _ hw rfl _) hd (kk p e s m args below meth c R A H locs cells slots ls ad ca n0 ad0 ca0 hc h1 h2 ha hs hM hS hl)
def r_iload (P : m_P) : Prop := ∀ (B : m_B) (pc : Nat) (L : m_L) (st : List Value) (h : m_H) (rc rs : Nat) (i : Nat) (x : Int32), decode B.1.2.1 pc = .ok (.iload i, 2) → L[i]? = some (some (.int x)) → P B (pc + 2) L (.int x :: st) h rc rs → P B pc L st h rc rs
theorem g_iload : r_iload (m_G l D b0 L0 xs) := by
  intro B pc L st h rc rs i x hd hv kk p e s m args below meth c R A H locs cells slots ls ad ca n0 ad0 ca0 hc h1 h2 ha hs hM hS hl
  obtain ⟨hx, hb, hml, hr, hlk, hown, htb, hin, hE, hK, hRf, hRl, hA⟩ := id hc
  exact lv_iload hx hb hd (hl.at hv) (kk p e s m args below meth c R A H locs cells slots ls ad ca n0 ad0 ca0 hc h1 h2 ha hs hM hS hl)
def r_iload_n (P : m_P) : Prop := ∀ (B : m_B) (pc : Nat) (L : m_L) (st : List Value) (h : m_H) (rc rs : Nat) (i : Fin 4) (x : Int32), decode B.1.2.1 pc = .ok (.iload_n i, 1) → L[(i : Nat)]? = some (some (.int x)) → P B (pc + 1) L (.int x :: st) h rc rs → P B pc L st h rc rs
theorem g_iload_n : r_iload_n (m_G l D b0 L0 xs) := by
  intro B pc L st h rc rs i x hd hv kk p e s m args below meth c R A H locs cells slots ls ad ca n0 ad0 ca0 hc h1 h2 ha hs hM hS hl
  obtain ⟨hx, hb, hml, hr, hlk, hown, htb, hin, hE, hK, hRf, hRl, hA⟩ := id hc
  exact lv_iload_n hx hb hd rfl (hl.at hv) (kk p e s m args below meth c R A H locs cells slots ls ad ca n0 ad0 ca0 hc h1 h2 ha hs hM hS hl)
def r_aload (P : m_P) : Prop := ∀ (B : m_B) (pc : Nat) (L : m_L) (st : List Value) (h : m_H) (rc rs : Nat) (i : Nat) (x : Nat), decode B.1.2.1 pc = .ok (.aload i, 2) → L[i]? = some (some (.ref x)) → P B (pc + 2) L (.ref x :: st) h rc rs → P B pc L st h rc rs
theorem g_aload : r_aload (m_G l D b0 L0 xs) := by
  intro B pc L st h rc rs i x hd hv kk p e s m args below meth c R A H locs cells slots ls ad ca n0 ad0 ca0 hc h1 h2 ha hs hM hS hl
  obtain ⟨hx, hb, hml, hr, hlk, hown, htb, hin, hE, hK, hRf, hRl, hA⟩ := id hc
  exact lv_aload hx hb hd (hl.at hv) (kk p e s m args below meth c R A H locs cells slots ls ad ca n0 ad0 ca0 hc h1 h2 ha hs hM hS hl)
def r_aload_n (P : m_P) : Prop := ∀ (B : m_B) (pc : Nat) (L : m_L) (st : List Value) (h : m_H) (rc rs : Nat) (i : Fin 4) (x : Nat), decode B.1.2.1 pc = .ok (.aload_n i, 1) → L[(i : Nat)]? = some (some (.ref x)) → P B (pc + 1) L (.ref x :: st) h rc rs → P B pc L st h rc rs
theorem g_aload_n : r_aload_n (m_G l D b0 L0 xs) := by
  intro B pc L st h rc rs i x hd hv kk p e s m args below meth c R A H locs cells slots ls ad ca n0 ad0 ca0 hc h1 h2 ha hs hM hS hl
  obtain ⟨hx, hb, hml, hr, hlk, hown, htb, hin, hE, hK, hRf, hRl, hA⟩ := id hc
  exact lv_aload_n hx hb hd rfl (hl.at hv) (kk p e s m args below meth c R A H locs cells slots ls ad ca n0 ad0 ca0 hc h1 h2 ha hs hM hS hl)
def r_istore (P : m_P) : Prop := ∀ (B : m_B) (pc : Nat) (L : m_L) (st : List Value) (h : m_H) (rc rs : Nat) (i : Nat) (x : Int32), decode B.1.2.1 pc = .ok (.istore i, 2) → i < L.length → P B (pc + 2) (L.set i (some (.int x))) (st) h rc rs → P B pc L (.int x :: st) h rc rs
theorem g_istore : r_istore (m_G l D b0 L0 xs) := by
  intro B pc L st h rc rs i x hd hi kk p e s m args below meth c R A H locs cells slots ls ad ca n0 ad0 ca0 hc h1 h2 ha hs hM hS hl
  obtain ⟨hx, hb, hml, hr, hlk, hown, htb, hin, hE, hK, hRf, hRl, hA⟩ := id hc
  refine lv_istore hx hb hd hl.has (by rw [← hl.1]; exact hi) rfl (fun ls1 hl1 => ?_)
  have hl2 := m_loc.set (v := .int x) hl (fun _ z => z) rfl hl1
  exact kk p e s m args below meth c R A H locs cells slots ls1 ad ca n0 ad0 ca0 hc h1 h2 ha hs hM hS hl2
def r_istore_n (P : m_P) : Prop := ∀ (B : m_B) (pc : Nat) (L : m_L) (st : List Value) (h : m_H) (rc rs : Nat) (i : Fin 4) (x : Int32), decode B.1.2.1 pc = .ok (.istore_n i, 1) → (i : Nat) < L.length → P B (pc + 1) (L.set (i : Nat) (some (.int x))) (st) h rc rs → P B pc L (.int x :: st) h rc rs
theorem g_istore_n : r_istore_n (m_G l D b0 L0 xs) := by
  intro B pc L st h rc rs i x hd hi kk p e s m args below meth c R A H locs cells slots ls ad ca n0 ad0 ca0 hc h1 h2 ha hs hM hS hl
  obtain ⟨hx, hb, hml, hr, hlk, hown, htb, hin, hE, hK, hRf, hRl, hA⟩ := id hc
  refine lv_istore_n hx hb hd rfl hl.has (by rw [← hl.1]; exact hi) rfl (fun ls1 hl1 => ?_)
  have hl2 := m_loc.set (v := .int x) hl (fun _ z => z) rfl hl1
  exact kk p e s m args below meth c R A H locs cells slots ls1 ad ca n0 ad0 ca0 hc h1 h2 ha hs hM hS hl2
def r_astore (P : m_P) : Prop := ∀ (B : m_B) (pc : Nat) (L : m_L) (st : List Value) (h : m_H) (rc rs : Nat) (i : Nat) (x : Nat), decode B.1.2.1 pc = .ok (.astore i, 2) → i < L.length → P B (pc + 2) (L.set i (some (.ref x))) (st) h rc rs → P B pc L (.ref x :: st) h rc rs
theorem g_astore : r_astore (m_G l D b0 L0 xs) := by
  intro B pc L st h rc rs i x hd hi kk p e s m args below meth c R A H locs cells slots ls ad ca n0 ad0 ca0 hc h1 h2 ha hs hM hS hl
  obtain ⟨hx, hb, hml, hr, hlk, hown, htb, hin, hE, hK, hRf, hRl, hA⟩ := id hc
  refine lv_astore hx hb hd hl.has (by rw [← hl.1]; exact hi) rfl (fun ls1 hl1 => ?_)
  have hl2 := m_loc.set (v := .ref x) hl (fun _ z => z) rfl hl1
  exact kk p e s m args below meth c R A H locs cells slots ls1 ad ca n0 ad0 ca0 hc h1 h2 ha hs hM hS hl2
def r_astore_n (P : m_P) : Prop := ∀ (B : m_B) (pc : Nat) (L : m_L) (st : List Value) (h : m_H) (rc rs : Nat) (i : Fin 4) (x : Nat), decode B.1.2.1 pc = .ok (.astore_n i, 1) → (i : Nat) < L.length → P B (pc + 1) (L.set (i : Nat) (some (.ref x))) (st) h rc rs → P B pc L (.ref x :: st) h rc rs
theorem g_astore_n : r_astore_n (m_G l D b0 L0 xs) := by
  intro B pc L st h rc rs i x hd hi kk p e s m args below meth c R A H locs cells slots ls ad ca n0 ad0 ca0 hc h1 h2 ha hs hM hS hl
  obtain ⟨hx, hb, hml, hr, hlk, hown, htb, hin, hE, hK, hRf, hRl, hA⟩ := id hc
  refine lv_astore_n hx hb hd rfl hl.has (by rw [← hl.1]; exact hi) rfl (fun ls1 hl1 => ?_)
  have hl2 := m_loc.set (v := .ref x) hl (fun _ z => z) rfl hl1
  exact kk p e s m args below meth c R A H locs cells slots ls1 ad ca n0 ad0 ca0 hc h1 h2 ha hs hM hS hl2
def r_iinc (P : m_P) : Prop := ∀ (B : m_B) (pc : Nat) (L : m_L) (st : List Value) (h : m_H) (rc rs : Nat) (i : Nat) (k : Int) (x v : Int32), decode B.1.2.1 pc = .ok (.iinc i k, 3) → L[i]? = some (some (.int x)) → x + Int32.ofInt k = v → P B (pc + 3) (L.set i (some (.int v))) (st) h rc rs → P B pc L st h rc rs
theorem g_iinc : r_iinc (m_G l D b0 L0 xs) := by
  intro B pc L st h rc rs i k x v hd hv he kk p e s m args below meth c R A H locs cells slots ls ad ca n0 ad0 ca0 hc h1 h2 ha hs hM hS hl
  obtain ⟨hx, hb, hml, hr, hlk, hown, htb, hin, hE, hK, hRf, hRl, hA⟩ := id hc
  refine lv_iinc (k := 0) hx hb hd (hl.hasC hv) rfl he (by rw [← hl.1]; exact (List.getElem?_eq_some_iff.mp hv).1) rfl (fun ls1 hl1 => ?_)
  have hl2 := m_loc.set (v := .int v) hl (fun q z => List.mem_cons_of_mem _ z) rfl hl1
  exact kk p e s m args below meth c R A H locs cells slots ls1 ad ca n0 ad0 ca0 hc h1 h2 ha hs hM hS hl2
def r_iadd (P : m_P) : Prop := ∀ (B : m_B) (pc : Nat) (L : m_L) (st : List Value) (h : m_H) (rc rs : Nat) (x y : Int32), decode B.1.2.1 pc = .ok (.iadd, 1) → P B (pc + 1) L (.int (x + y) :: st) h rc rs → P B pc L (.int y :: .int x :: st) h rc rs
theorem g_iadd : r_iadd (m_G l D b0 L0 xs) := by
  intro B pc L st h rc rs x y hd kk p e s m args below meth c R A H locs cells slots ls ad ca n0 ad0 ca0 hc h1 h2 ha hs hM hS hl
  obtain ⟨hx, hb, hml, hr, hlk, hown, htb, hin, hE, hK, hRf, hRl, hA⟩ := id hc
  exact lv_iadd hx hb hd (kk p e s m args below meth c R A H locs cells slots ls ad ca n0 ad0 ca0 hc h1 h2 ha hs hM hS hl)
def r_isub (P : m_P) : Prop := ∀ (B : m_B) (pc : Nat) (L : m_L) (st : List Value) (h : m_H) (rc rs : Nat) (x y : Int32), decode B.1.2.1 pc = .ok (.isub, 1) → P B (pc + 1) L (.int (x - y) :: st) h rc rs → P B pc L (.int y :: .int x :: st) h rc rs
theorem g_isub : r_isub (m_G l D b0 L0 xs) := by
  intro B pc L st h rc rs x y hd kk p e s m args below meth c R A H locs cells slots ls ad ca n0 ad0 ca0 hc h1 h2 ha hs hM hS hl
  obtain ⟨hx, hb, hml, hr, hlk, hown, htb, hin, hE, hK, hRf, hRl, hA⟩ := id hc
  exact lv_isub hx hb hd (kk p e s m args below meth c R A H locs cells slots ls ad ca n0 ad0 ca0 hc h1 h2 ha hs hM hS hl)
def r_imul (P : m_P) : Prop := ∀ (B : m_B) (pc : Nat) (L : m_L) (st : List Value) (h : m_H) (rc rs : Nat) (x y : Int32), decode B.1.2.1 pc = .ok (.imul, 1) → P B (pc + 1) L (.int (x * y) :: st) h rc rs → P B pc L (.int y :: .int x :: st) h rc rs
theorem g_imul : r_imul (m_G l D b0 L0 xs) := by
  intro B pc L st h rc rs x y hd kk p e s m args below meth c R A H locs cells slots ls ad ca n0 ad0 ca0 hc h1 h2 ha hs hM hS hl
  obtain ⟨hx, hb, hml, hr, hlk, hown, htb, hin, hE, hK, hRf, hRl, hA⟩ := id hc
  exact lv_imul hx hb hd (kk p e s m args below meth c R A H locs cells slots ls ad ca n0 ad0 ca0 hc h1 h2 ha hs hM hS hl)
def r_iand (P : m_P) : Prop := ∀ (B : m_B) (pc : Nat) (L : m_L) (st : List Value) (h : m_H) (rc rs : Nat) (x y : Int32), decode B.1.2.1 pc = .ok (.iand, 1) → P B (pc + 1) L (.int (x &&& y) :: st) h rc rs → P B pc L (.int y :: .int x :: st) h rc rs
theorem g_iand : r_iand (m_G l D b0 L0 xs) := by
  intro B pc L st h rc rs x y hd kk p e s m args below meth c R A H locs cells slots ls ad ca n0 ad0 ca0 hc h1 h2 ha hs hM hS hl
  obtain ⟨hx, hb, hml, hr, hlk, hown, htb, hin, hE, hK, hRf, hRl, hA⟩ := id hc
  exact lv_iand hx hb hd (kk p e s m args below meth c R A H locs cells slots ls ad ca n0 ad0 ca0 hc h1 h2 ha hs hM hS hl)
def r_ior (P : m_P) : Prop := ∀ (B : m_B) (pc : Nat) (L : m_L) (st : List Value) (h : m_H) (rc rs : Nat) (x y : Int32), decode B.1.2.1 pc = .ok (.ior, 1) → P B (pc + 1) L (.int (x ||| y) :: st) h rc rs → P B pc L (.int y :: .int x :: st) h rc rs
theorem g_ior : r_ior (m_G l D b0 L0 xs) := by
  intro B pc L st h rc rs x y hd kk p e s m args below meth c R A H locs cells slots ls ad ca n0 ad0 ca0 hc h1 h2 ha hs hM hS hl
  obtain ⟨hx, hb, hml, hr, hlk, hown, htb, hin, hE, hK, hRf, hRl, hA⟩ := id hc
  exact lv_ior hx hb hd (kk p e s m args below meth c R A H locs cells slots ls ad ca n0 ad0 ca0 hc h1 h2 ha hs hM hS hl)
def r_ixor (P : m_P) : Prop := ∀ (B : m_B) (pc : Nat) (L : m_L) (st : List Value) (h : m_H) (rc rs : Nat) (x y : Int32), decode B.1.2.1 pc = .ok (.ixor, 1) → P B (pc + 1) L (.int (x ^^^ y) :: st) h rc rs → P B pc L (.int y :: .int x :: st) h rc rs
theorem g_ixor : r_ixor (m_G l D b0 L0 xs) := by
  intro B pc L st h rc rs x y hd kk p e s m args below meth c R A H locs cells slots ls ad ca n0 ad0 ca0 hc h1 h2 ha hs hM hS hl
  obtain ⟨hx, hb, hml, hr, hlk, hown, htb, hin, hE, hK, hRf, hRl, hA⟩ := id hc
  exact lv_ixor hx hb hd (kk p e s m args below meth c R A H locs cells slots ls ad ca n0 ad0 ca0 hc h1 h2 ha hs hM hS hl)
def r_ishl (P : m_P) : Prop := ∀ (B : m_B) (pc : Nat) (L : m_L) (st : List Value) (h : m_H) (rc rs : Nat) (x y : Int32), decode B.1.2.1 pc = .ok (.ishl, 1) → P B (pc + 1) L (.int (x <<< (y &&& 31)) :: st) h rc rs → P B pc L (.int y :: .int x :: st) h rc rs
theorem g_ishl : r_ishl (m_G l D b0 L0 xs) := by
  intro B pc L st h rc rs x y hd kk p e s m args below meth c R A H locs cells slots ls ad ca n0 ad0 ca0 hc h1 h2 ha hs hM hS hl
  obtain ⟨hx, hb, hml, hr, hlk, hown, htb, hin, hE, hK, hRf, hRl, hA⟩ := id hc
  exact lv_ishl hx hb hd (kk p e s m args below meth c R A H locs cells slots ls ad ca n0 ad0 ca0 hc h1 h2 ha hs hM hS hl)
def r_ishr (P : m_P) : Prop := ∀ (B : m_B) (pc : Nat) (L : m_L) (st : List Value) (h : m_H) (rc rs : Nat) (x y : Int32), decode B.1.2.1 pc = .ok (.ishr, 1) → P B (pc + 1) L (.int (x >>> (y &&& 31)) :: st) h rc rs → P B pc L (.int y :: .int x :: st) h rc rs
theorem g_ishr : r_ishr (m_G l D b0 L0 xs) := by
  intro B pc L st h rc rs x y hd kk p e s m args below meth c R A H locs cells slots ls ad ca n0 ad0 ca0 hc h1 h2 ha hs hM hS hl
  obtain ⟨hx, hb, hml, hr, hlk, hown, htb, hin, hE, hK, hRf, hRl, hA⟩ := id hc
  exact lv_ishr hx hb hd (kk p e s m args below meth c R A H locs cells slots ls ad ca n0 ad0 ca0 hc h1 h2 ha hs hM hS hl)
def r_iushr (P : m_P) : Prop := ∀ (B : m_B) (pc : Nat) (L : m_L) (st : List Value) (h : m_H) (rc rs : Nat) (x y : Int32), decode B.1.2.1 pc = .ok (.iushr, 1) → P B (pc + 1) L (.int ((x.toUInt32 >>> (y.toUInt32 &&& Int32.toUInt32 31)).toInt32) :: st) h rc rs → P B pc L (.int y :: .int x :: st) h rc rs
theorem g_iushr : r_iushr (m_G l D b0 L0 xs) := by
  intro B pc L st h rc rs x y hd kk p e s m args below meth c R A H locs cells slots ls ad ca n0 ad0 ca0 hc h1 h2 ha hs hM hS hl
  obtain ⟨hx, hb, hml, hr, hlk, hown, htb, hin, hE, hK, hRf, hRl, hA⟩ := id hc
  exact lv_iushr hx hb hd rfl (kk p e s m args below meth c R A H locs cells slots ls ad ca n0 ad0 ca0 hc h1 h2 ha hs hM hS hl)
def r_idiv (P : m_P) : Prop := ∀ (B : m_B) (pc : Nat) (L : m_L) (st : List Value) (h : m_H) (rc rs : Nat) (x y : Int32), decode B.1.2.1 pc = .ok (.idiv, 1) → ¬ y = 0 → P B (pc + 1) L (.int (x / y) :: st) h rc rs → P B pc L (.int y :: .int x :: st) h rc rs
theorem g_idiv : r_idiv (m_G l D b0 L0 xs) := by
  intro B pc L st h rc rs x y hd hy kk p e s m args below meth c R A H locs cells slots ls ad ca n0 ad0 ca0 hc h1 h2 ha hs hM hS hl
  obtain ⟨hx, hb, hml, hr, hlk, hown, htb, hin, hE, hK, hRf, hRl, hA⟩ := id hc
  exact lv_idiv hx hb hd hy (kk p e s m args below meth c R A H locs cells slots ls ad ca n0 ad0 ca0 hc h1 h2 ha hs hM hS hl)
def r_i2l (P : m_P) : Prop := ∀ (B : m_B) (pc : Nat) (L : m_L) (st : List Value) (h : m_H) (rc rs : Nat) (x : Int32), decode B.1.2.1 pc = .ok (.i2l, 1) → P B (pc + 1) L (.long x.toInt64 :: st) h rc rs → P B pc L (.int x :: st) h rc rs
theorem g_i2l : r_i2l (m_G l D b0 L0 xs) := by
  intro B pc L st h rc rs x hd kk p e s m args below meth c R A H locs cells slots ls ad ca n0 ad0 ca0 hc h1 h2 ha hs hM hS hl
  obtain ⟨hx, hb, hml, hr, hlk, hown, htb, hin, hE, hK, hRf, hRl, hA⟩ := id hc
  exact lv_i2l hx hb hd rfl (kk p e s m args below meth c R A H locs cells slots ls ad ca n0 ad0 ca0 hc h1 h2 ha hs hM hS hl)
def r_lcmp (P : m_P) : Prop := ∀ (B : m_B) (pc : Nat) (L : m_L) (st : List Value) (h : m_H) (rc rs : Nat) (x y : Int64), decode B.1.2.1 pc = .ok (.lcmp, 1) → P B (pc + 1) L (.int (lg_cmp x y) :: st) h rc rs → P B pc L (.long y :: .long x :: st) h rc rs
theorem g_lcmp : r_lcmp (m_G l D b0 L0 xs) := by
  intro B pc L st h rc rs x y hd kk p e s m args below meth c R A H locs cells slots ls ad ca n0 ad0 ca0 hc h1 h2 ha hs hM hS hl
  obtain ⟨hx, hb, hml, hr, hlk, hown, htb, hin, hE, hK, hRf, hRl, hA⟩ := id hc
  exact W.lcmp hx hb hd (kk p e s m args below meth c R A H locs cells slots ls ad ca n0 ad0 ca0 hc h1 h2 ha hs hM hS hl)
def r_if_eq (P : m_P) : Prop := ∀ (B : m_B) (pc : Nat) (L : m_L) (st : List Value) (h : m_H) (rc rs : Nat) (x : Int32) (off : Int) (tgt : Nat), decode B.1.2.1 pc = .ok (.ifCond .eq off, 3) → (pc : Int) + off = (tgt : Int) → (x = 0 → P B tgt L st h rc rs) → (¬ x = 0 → P B (pc + 3) L st h rc rs) → P B pc L (.int x :: st) h rc rs
theorem g_if_eq : r_if_eq (m_G l D b0 L0 xs) := by
  intro B pc L st h rc rs x off tgt hd ht k1 k2 p e s m args below meth c R A H locs cells slots ls ad ca n0 ad0 ca0 hc h1 h2 ha hs hM hS hl
  obtain ⟨hx, hb, hml, hr, hlk, hown, htb, hin, hE, hK, hRf, hRl, hA⟩ := id hc
  exact lv_if_eq hx hb hd ht (fun z => k1 z p e s m args below meth c R A H locs cells slots ls ad ca n0 ad0 ca0 hc h1 h2 ha hs hM hS hl) (fun z => k2 z p e s m args below meth c R A H locs cells slots ls ad ca n0 ad0 ca0 hc h1 h2 ha hs hM hS hl)
def r_if_ne (P : m_P) : Prop := ∀ (B : m_B) (pc : Nat) (L : m_L) (st : List Value) (h : m_H) (rc rs : Nat) (x : Int32) (off : Int) (tgt : Nat), decode B.1.2.1 pc = .ok (.ifCond .ne off, 3) → (pc : Int) + off = (tgt : Int) → (¬ x = 0 → P B tgt L st h rc rs) → (x = 0 → P B (pc + 3) L st h rc rs) → P B pc L (.int x :: st) h rc rs
theorem g_if_ne : r_if_ne (m_G l D b0 L0 xs) := by
  intro B pc L st h rc rs x off tgt hd ht k1 k2 p e s m args below meth c R A H locs cells slots ls ad ca n0 ad0 ca0 hc h1 h2 ha hs hM hS hl
  obtain ⟨hx, hb, hml, hr, hlk, hown, htb, hin, hE, hK, hRf, hRl, hA⟩ := id hc
  exact lv_if_ne hx hb hd ht (fun z => k1 z p e s m args below meth c R A H locs cells slots ls ad ca n0 ad0 ca0 hc h1 h2 ha hs hM hS hl) (fun z => k2 z p e s m args below meth c R A H locs cells slots ls ad ca n0 ad0 ca0 hc h1 h2 ha hs hM hS hl)
def r_if_lt (P : m_P) : Prop := ∀ (B : m_B) (pc : Nat) (L : m_L) (st : List Value) (h : m_H) (rc rs : Nat) (x : Int32) (off : Int) (tgt : Nat), decode B.1.2.1 pc = .ok (.ifCond .lt off, 3) → (pc : Int) + off = (tgt : Int) → (x < 0 → P B tgt L st h rc rs) → (¬ x < 0 → P B (pc + 3) L st h rc rs) → P B pc L (.int x :: st) h rc rs
theorem g_if_lt : r_if_lt (m_G l D b0 L0 xs) := by
  intro B pc L st h rc rs x off tgt hd ht k1 k2 p e s m args below meth c R A H locs cells slots ls ad ca n0 ad0 ca0 hc h1 h2 ha hs hM hS hl
  obtain ⟨hx, hb, hml, hr, hlk, hown, htb, hin, hE, hK, hRf, hRl, hA⟩ := id hc
  exact lv_if_lt hx hb hd ht (fun z => k1 z p e s m args below meth c R A H locs cells slots ls ad ca n0 ad0 ca0 hc h1 h2 ha hs hM hS hl) (fun z => k2 z p e s m args below meth c R A H locs cells slots ls ad ca n0 ad0 ca0 hc h1 h2 ha hs hM hS hl)
def r_if_ge (P : m_P) : Prop := ∀ (B : m_B) (pc : Nat) (L : m_L) (st : List Value) (h : m_H) (rc rs : Nat) (x : Int32) (off : Int) (tgt : Nat), decode B.1.2.1 pc = .ok (.ifCond .ge off, 3) → (pc : Int) + off = (tgt : Int) → (0 ≤ x → P B tgt L st h rc rs) → (¬ 0 ≤ x → P B (pc + 3) L st h rc rs) → P B pc L (.int x :: st) h rc rs
theorem g_if_ge : r_if_ge (m_G l D b0 L0 xs) := by
  intro B pc L st h rc rs x off tgt hd ht k1 k2 p e s m args below meth c R A H locs cells slots ls ad ca n0 ad0 ca0 hc h1 h2 ha hs hM hS hl
  obtain ⟨hx, hb, hml, hr, hlk, hown, htb, hin, hE, hK, hRf, hRl, hA⟩ := id hc
  exact lv_if_ge hx hb hd ht (fun z => k1 z p e s m args below meth c R A H locs cells slots ls ad ca n0 ad0 ca0 hc h1 h2 ha hs hM hS hl) (fun z => k2 z p e s m args below meth c R A H locs cells slots ls ad ca n0 ad0 ca0 hc h1 h2 ha hs hM hS hl)
def r_if_gt (P : m_P) : Prop := ∀ (B : m_B) (pc : Nat) (L : m_L) (st : List Value) (h : m_H) (rc rs : Nat) (x : Int32) (off : Int) (tgt : Nat), decode B.1.2.1 pc = .ok (.ifCond .gt off, 3) → (pc : Int) + off = (tgt : Int) → (0 < x → P B tgt L st h rc rs) → (¬ 0 < x → P B (pc + 3) L st h rc rs) → P B pc L (.int x :: st) h rc rs
theorem g_if_gt : r_if_gt (m_G l D b0 L0 xs) := by
  intro B pc L st h rc rs x off tgt hd ht k1 k2 p e s m args below meth c R A H locs cells slots ls ad ca n0 ad0 ca0 hc h1 h2 ha hs hM hS hl
  obtain ⟨hx, hb, hml, hr, hlk, hown, htb, hin, hE, hK, hRf, hRl, hA⟩ := id hc
  exact lv_if_gt hx hb hd ht (fun z => k1 z p e s m args below meth c R A H locs cells slots ls ad ca n0 ad0 ca0 hc h1 h2 ha hs hM hS hl) (fun z => k2 z p e s m args below meth c R A H locs cells slots ls ad ca n0 ad0 ca0 hc h1 h2 ha hs hM hS hl)
def r_if_le (P : m_P) : Prop := ∀ (B : m_B) (pc : Nat) (L : m_L) (st : List Value) (h : m_H) (rc rs : Nat) (x : Int32) (off : Int) (tgt : Nat), decode B.1.2.1 pc = .ok (.ifCond .le off, 3) → (pc : Int) + off = (tgt : Int) → (x ≤ 0 → P B tgt L st h rc rs) → (¬ x ≤ 0 → P B (pc + 3) L st h rc rs) → P B pc L (.int x :: st) h rc rs
theorem g_if_le : r_if_le (m_G l D b0 L0 xs) := by
  intro B pc L st h rc rs x off tgt hd ht k1 k2 p e s m args below meth c R A H locs cells slots ls ad ca n0 ad0 ca0 hc h1 h2 ha hs hM hS hl
  obtain ⟨hx, hb, hml, hr, hlk, hown, htb, hin, hE, hK, hRf, hRl, hA⟩ := id hc
  exact lv_if_le hx hb hd ht (fun z => k1 z p e s m args below meth c R A H locs cells slots ls ad ca n0 ad0 ca0 hc h1 h2 ha hs hM hS hl) (fun z => k2 z p e s m args below meth c R A H locs cells slots ls ad ca n0 ad0 ca0 hc h1 h2 ha hs hM hS hl)
def r_icmp_eq (P : m_P) : Prop := ∀ (B : m_B) (pc : Nat) (L : m_L) (st : List Value) (h : m_H) (rc rs : Nat) (x y : Int32) (off : Int) (tgt : Nat), decode B.1.2.1 pc = .ok (.if_icmp .eq off, 3) → (pc : Int) + off = (tgt : Int) → (x = y → P B tgt L st h rc rs) → (¬ x = y → P B (pc + 3) L st h rc rs) → P B pc L (.int y :: .int x :: st) h rc rs
theorem g_icmp_eq : r_icmp_eq (m_G l D b0 L0 xs) := by
  intro B pc L st h rc rs x y off tgt hd ht k1 k2 p e s m args below meth c R A H locs cells slots ls ad ca n0 ad0 ca0 hc h1 h2 ha hs hM hS hl
  obtain ⟨hx, hb, hml, hr, hlk, hown, htb, hin, hE, hK, hRf, hRl, hA⟩ := id hc
  exact lv_icmp_eq hx hb hd ht (fun z => k1 z p e s m args below meth c R A H locs cells slots ls ad ca n0 ad0 ca0 hc h1 h2 ha hs hM hS hl) (fun z => k2 z p e s m args below meth c R A H locs cells slots ls ad ca n0 ad0 ca0 hc h1 h2 ha hs hM hS hl)
def r_icmp_ne (P : m_P) : Prop := ∀ (B : m_B) (pc : Nat) (L : m_L) (st : List Value) (h : m_H) (rc rs : Nat) (x y : Int32) (off : Int) (tgt : Nat), decode B.1.2.1 pc = .ok (.if_icmp .ne off, 3) → (pc : Int) + off = (tgt : Int) → (¬ x = y → P B tgt L st h rc rs) → (x = y → P B (pc + 3) L st h rc rs) → P B pc L (.int y :: .int x :: st) h rc rs
theorem g_icmp_ne : r_icmp_ne (m_G l D b0 L0 xs) := by
  intro B pc L st h rc rs x y off tgt hd ht k1 k2 p e s m args below meth c R A H locs cells slots ls ad ca n0 ad0 ca0 hc h1 h2 ha hs hM hS hl
  obtain ⟨hx, hb, hml, hr, hlk, hown, htb, hin, hE, hK, hRf, hRl, hA⟩ := id hc
  exact lv_icmp_ne hx hb hd ht (fun z => k1 z p e s m args below meth c R A H locs cells slots ls ad ca n0 ad0 ca0 hc h1 h2 ha hs hM hS hl) (fun z => k2 z p e s m args below meth c R A H locs cells slots ls ad ca n0 ad0 ca0 hc h1 h2 ha hs hM hS hl)
def r_icmp_lt (P : m_P) : Prop := ∀ (B : m_B) (pc : Nat) (L : m_L) (st : List Value) (h : m_H) (rc rs : Nat) (x y : Int32) (off : Int) (tgt : Nat), decode B.1.2.1 pc = .ok (.if_icmp .lt off, 3) → (pc : Int) + off = (tgt : Int) → (x < y → P B tgt L st h rc rs) → (¬ x < y → P B (pc + 3) L st h rc rs) → P B pc L (.int y :: .int x :: st) h rc rs
theorem g_icmp_lt : r_icmp_lt (m_G l D b0 L0 xs) := by
  intro B pc L st h rc rs x y off tgt hd ht k1 k2 p e s m args below meth c R A H locs cells slots ls ad ca n0 ad0 ca0 hc h1 h2 ha hs hM hS hl
  obtain ⟨hx, hb, hml, hr, hlk, hown, htb, hin, hE, hK, hRf, hRl, hA⟩ := id hc
  exact lv_icmp_lt hx hb hd ht (fun z => k1 z p e s m args below meth c R A H locs cells slots ls ad ca n0 ad0 ca0 hc h1 h2 ha hs hM hS hl) (fun z => k2 z p e s m args below meth c R A H locs cells slots ls ad ca n0 ad0 ca0 hc h1 h2 ha hs hM hS hl)
def r_icmp_ge (P : m_P) : Prop := ∀ (B : m_B) (pc : Nat) (L : m_L) (st : List Value) (h : m_H) (rc rs : Nat) (x y : Int32) (off : Int) (tgt : Nat), decode B.1.2.1 pc = .ok (.if_icmp .ge off, 3) → (pc : Int) + off = (tgt : Int) → (y ≤ x → P B tgt L st h rc rs) → (¬ y ≤ x → P B (pc + 3) L st h rc rs) → P B pc L (.int y :: .int x :: st) h rc rs
theorem g_icmp_ge : r_icmp_ge (m_G l D b0 L0 xs) := by
  intro B pc L st h rc rs x y off tgt hd ht k1 k2 p e s m args below meth c R A H locs cells slots ls ad ca n0 ad0 ca0 hc h1 h2 ha hs hM hS hl
  obtain ⟨hx, hb, hml, hr, hlk, hown, htb, hin, hE, hK, hRf, hRl, hA⟩ := id hc
  exact lv_icmp_ge hx hb hd ht (fun z => k1 z p e s m args below meth c R A H locs cells slots ls ad ca n0 ad0 ca0 hc h1 h2 ha hs hM hS hl) (fun z => k2 z p e s m args below meth c R A H locs cells slots ls ad ca n0 ad0 ca0 hc h1 h2 ha hs hM hS hl)
def r_icmp_gt (P : m_P) : Prop := ∀ (B : m_B) (pc : Nat) (L : m_L) (st : List Value) (h : m_H) (rc rs : Nat) (x y : Int32) (off : Int) (tgt : Nat), decode B.1.2.1 pc = .ok (.if_icmp .gt off, 3) → (pc : Int) + off = (tgt : Int) → (y < x → P B tgt L st h rc rs) → (¬ y < x → P B (pc + 3) L st h rc rs) → P B pc L (.int y :: .int x :: st) h rc rs
theorem g_icmp_gt : r_icmp_gt (m_G l D b0 L0 xs) := by
  intro B pc L st h rc rs x y off tgt hd ht k1 k2 p e s m args below meth c R A H locs cells slots ls ad ca n0 ad0 ca0 hc h1 h2 ha hs hM hS hl
  obtain ⟨hx, hb, hml, hr, hlk, hown, htb, hin, hE, hK, hRf, hRl, hA⟩ := id hc
  exact lv_icmp_gt hx hb hd ht (fun z => k1 z p e s m args below meth c R A H locs cells slots ls ad ca n0 ad0 ca0 hc h1 h2 ha hs hM hS hl) (fun z => k2 z p e s m args below meth c R A H locs cells slots ls ad ca n0 ad0 ca0 hc h1 h2 ha hs hM hS hl)
def r_icmp_le (P : m_P) : Prop := ∀ (B : m_B) (pc : Nat) (L : m_L) (st : List Value) (h : m_H) (rc rs : Nat) (x y : Int32) (off : Int) (tgt : Nat), decode B.1.2.1 pc = .ok (.if_icmp .le off, 3) → (pc : Int) + off = (tgt : Int) → (x ≤ y → P B tgt L st h rc rs) → (¬ x ≤ y → P B (pc + 3) L st h rc rs) → P B pc L (.int y :: .int x :: st) h rc rs
theorem g_icmp_le : r_icmp_le (m_G l D b0 L0 xs) := by
  intro B pc L st h rc rs x y off tgt hd ht k1 k2 p e s m args below meth c R A H locs cells slots ls ad ca n0 ad0 ca0 hc h1 h2 ha hs hM hS hl
  obtain ⟨hx, hb, hml, hr, hlk, hown, htb, hin, hE, hK, hRf, hRl, hA⟩ := id hc
  exact lv_icmp_le hx hb hd ht (fun z => k1 z p e s m args below meth c R A H locs cells slots ls ad ca n0 ad0 ca0 hc h1 h2 ha hs hM hS hl) (fun z => k2 z p e s m args below meth c R A H locs cells slots ls ad ca n0 ad0 ca0 hc h1 h2 ha hs hM hS hl)
def r_goto (P : m_P) : Prop := ∀ (B : m_B) (pc : Nat) (L : m_L) (st : List Value) (h : m_H) (rc rs : Nat) (off : Int) (tgt : Nat), decode B.1.2.1 pc = .ok (.goto off, 3) → (pc : Int) + off = (tgt : Int) → P B tgt L st h rc rs → P B pc L st h rc rs
theorem g_goto : r_goto (m_G l D b0 L0 xs) := by
  intro B pc L st h rc rs off tgt hd ht kk p e s m args below meth c R A H locs cells slots ls ad ca n0 ad0 ca0 hc h1 h2 ha hs hM hS hl
  obtain ⟨hx, hb, hml, hr, hlk, hown, htb, hin, hE, hK, hRf, hRl, hA⟩ := id hc
  exact lv_goto hx hb hd ht (kk p e s m args below meth c R A H locs cells slots ls ad ca n0 ad0 ca0 hc h1 h2 ha hs hM hS hl)
def r_dup (P : m_P) : Prop := ∀ (B : m_B) (pc : Nat) (L : m_L) (st : List Value) (h : m_H) (rc rs : Nat) (a : Value), decode B.1.2.1 pc = .ok (.dup, 1) → a.category = 1 → P B (pc + 1) L (a :: a :: st) h rc rs → P B pc L (a :: st) h rc rs
theorem g_dup : r_dup (m_G l D b0 L0 xs) := by
  intro B pc L st h rc rs a hd hv kk p e s m args below meth c R A H locs cells slots ls ad ca n0 ad0 ca0 hc h1 h2 ha hs hM hS hl
  obtain ⟨hx, hb, hml, hr, hlk, hown, htb, hin, hE, hK, hRf, hRl, hA⟩ := id hc
  exact lv_dup hx hb hd (by rw [m_tv_cat]; exact hv) (kk p e s m args below meth c R A H locs cells slots ls ad ca n0 ad0 ca0 hc h1 h2 ha hs hM hS hl)
def r_dup2 (P : m_P) : Prop := ∀ (B : m_B) (pc : Nat) (L : m_L) (st : List Value) (h : m_H) (rc rs : Nat) (a b : Value), decode B.1.2.1 pc = .ok (.dup2, 1) → a.category = 1 → b.category = 1 → P B (pc + 1) L (a :: b :: a :: b :: st) h rc rs → P B pc L (a :: b :: st) h rc rs
theorem g_dup2 : r_dup2 (m_G l D b0 L0 xs) := by
  intro B pc L st h rc rs a b hd hv hw kk p e s m args below meth c R A H locs cells slots ls ad ca n0 ad0 ca0 hc h1 h2 ha hs hM hS hl
  obtain ⟨hx, hb, hml, hr, hlk, hown, htb, hin, hE, hK, hRf, hRl, hA⟩ := id hc
  exact lv_dup2_11 hx hb hd (by rw [m_tv_cat]; exact hv) (by rw [m_tv_cat]; exact hw) (kk p e s m args below meth c R A H locs cells slots ls ad ca n0 ad0 ca0 hc h1 h2 ha hs hM hS hl)
def r_pop (P : m_P) : Prop := ∀ (B : m_B) (pc : Nat) (L : m_L) (st : List Value) (h : m_H) (rc rs : Nat) (a : Value), decode B.1.2.1 pc = .ok (.pop, 1) → a.category = 1 → P B (pc + 1) L (st) h rc rs → P B pc L (a :: st) h rc rs
theorem g_pop : r_pop (m_G l D b0 L0 xs) := by
  intro B pc L st h rc rs a hd hv kk p e s m args below meth c R A H locs cells slots ls ad ca n0 ad0 ca0 hc h1 h2 ha hs hM hS hl
  obtain ⟨hx, hb, hml, hr, hlk, hown, htb, hin, hE, hK, hRf, hRl, hA⟩ := id hc
  exact lv_pop hx hb hd (by rw [m_tv_cat]; exact hv) (kk p e s m args below meth c R A H locs cells slots ls ad ca n0 ad0 ca0 hc h1 h2 ha hs hM hS hl)
def r_tabO (P : m_P) : Prop := ∀ (B : m_B) (pc : Nat) (L : m_L) (st : List Value) (h : m_H) (rc rs : Nat) (x : Int32) (df lo hi : Int) (offs : Array Int) (len tgt : Nat), decode B.1.2.1 pc = .ok (.tableswitch df lo hi offs, len) → (x.toInt < lo ∨ hi < x.toInt) → (pc : Int) + df = (tgt : Int) → P B tgt L st h rc rs → P B pc L (.int x :: st) h rc rs
theorem g_tabO : r_tabO (m_G l D b0 L0 xs) := by
  intro B pc L st h rc rs x df lo hi offs len tgt hd hz ht kk p e s m args below meth c R A H locs cells slots ls ad ca n0 ad0 ca0 hc h1 h2 ha hs hM hS hl
  obtain ⟨hx, hb, hml, hr, hlk, hown, htb, hin, hE, hK, hRf, hRl, hA⟩ := id hc
  exact lv_tableOut hx hb hd hz ht (kk p e s m args below meth c R A H locs cells slots ls ad ca n0 ad0 ca0 hc h1 h2 ha hs hM hS hl)
def r_tabI (P : m_P) : Prop := ∀ (B : m_B) (pc : Nat) (L : m_L) (st : List Value) (h : m_H) (rc rs : Nat) (x : Int32) (df lo hi : Int) (offs : Array Int) (len : Nat) (off : Int) (tgt : Nat), decode B.1.2.1 pc = .ok (.tableswitch df lo hi offs, len) → ¬ x.toInt < lo → ¬ hi < x.toInt → offs[(x.toInt - lo).toNat]? = some off → (pc : Int) + off = (tgt : Int) → P B tgt L st h rc rs → P B pc L (.int x :: st) h rc rs
theorem g_tabI : r_tabI (m_G l D b0 L0 xs) := by
  intro B pc L st h rc rs x df lo hi offs len off tgt hd hz hz2 ho ht kk p e s m args below meth c R A H locs cells slots ls ad ca n0 ad0 ca0 hc h1 h2 ha hs hM hS hl
  obtain ⟨hx, hb, hml, hr, hlk, hown, htb, hin, hE, hK, hRf, hRl, hA⟩ := id hc
  exact lv_tableIn hx hb hd hz hz2 ho ht (kk p e s m args below meth c R A H locs cells slots ls ad ca n0 ad0 ca0 hc h1 h2 ha hs hM hS hl)
end RULES
