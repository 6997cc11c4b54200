section RULES2
variable {l : Launch} {D : va_G} {b0 L0 : Nat} {xs : Nat → Int32}
theorem m_Cx_ts {A : Nat → Prop} {s : State} {args : Array Value} (hE : m_Env A s) : ∀ w ∈ lw_tbl.filter m_ok, w.before args s = true := fun w hw => hE.1 w (List.mem_filter.mp hw).1 (List.mem_filter.mp hw).2 args
theorem m_in {w : Cond} (h1 : w ∈ lw_tbl) (h2 : m_ok w = true) : w ∈ lw_tbl.filter m_ok := List.mem_filter.mpr ⟨h1, h2⟩
/-- what the tables say of a class of the pool -/
def m_CK (ci : Nat) : Prop := ∃ (C : String) (T : u_T) (N : Nat) (ty : Nat → FieldType), vwCl[ci]? = some (C, T, N) ∧ (∀ w ∈ u_ws C T N, w ∈ lw_tbl) ∧ (∀ k, k < N → parseFieldDescriptor (T k).2.2.1 = some (ty k)) ∧ (∀ a, a < N → ∀ b, b < N → a ≠ b → (T a).2.1 ≠ (T b).2.1) ∧ (∀ k, k < N → (T k).1 = C) ∧ (∀ k, k < N → m_kd ci k = 0 → ty k = .int) ∧ (∀ k, k < N → m_kd ci k = 1 → ty k = .boolean) ∧ (∀ k, k < N → m_kd ci k = 2 → ∃ c, ty k = .object c ∨ ∃ t, ty k = .array t) ∧ (∀ k, k < N → m_kd ci k = 0 ∨ m_kd ci k = 1 ∨ m_kd ci k = 2)
/-- the field at a place of a class's pool is the k-th of the class ci -/
def m_FL (own : String) (idx ci k : Nat) : Prop := ∃ (C : String) (T : u_T) (N : Nat), vwCl[ci]? = some (C, T, N) ∧ k < N ∧ Cond.fieldLink own idx (T k).1 (T k).2.1 (T k).2.2.1 ∈ lw_tbl
/-- .. and may be put: not final, or final and the class's own -/
def m_FP (own : String) (ci k : Nat) (fin : Bool) : Prop := ∃ (C : String) (T : u_T) (N : Nat), vwCl[ci]? = some (C, T, N) ∧ (T k).2.2.2 = fin ∧ (fin = true → C = own)
theorem m_ck0 {ci : Nat} {C : String} {T : u_T} {N : Nat} (h : vwCl[ci]? = some (C, T, N)) : ci < 12 := (List.getElem?_eq_some_iff.mp h).1
theorem m_nf_of {ci : Nat} {C : String} {T : u_T} {N : Nat} (h : vwCl[ci]? = some (C, T, N)) : m_nf ci = N := by unfold m_nf; rw [h]
theorem m_ws_ok {C : String} {T : u_T} {N : Nat} (h : ∀ w ∈ u_ws C T N, w ∈ lw_tbl) : ∀ w ∈ u_ws C T N, w ∈ lw_tbl.filter m_ok := by
  intro w hw
  refine m_in (h w hw) ?_
  obtain ⟨k, -, rfl⟩ := List.mem_map.mp hw
  unfold u_lay
  split <;> rfl
theorem m_ck : ∀ ci, ci < 12 → m_CK ci := by
  intro ci hci
  have hin : ∀ ci, ci < 12 → ∀ r, vwCl[ci]? = some r → ∀ w ∈ u_ws r.1 r.2.1 r.2.2, w ∈ lw_tbl := by
    intro ci hci
    rcases (show ci = 0 ∨ ci = 1 ∨ ci = 2 ∨ ci = 3 ∨ ci = 4 ∨ ci = 5 ∨ ci = 6 ∨ ci = 7 ∨ ci = 8 ∨ ci = 9 ∨ ci = 10 ∨ ci = 11 by omega) with rfl | rfl | rfl | rfl | rfl | rfl | rfl | rfl | rfl | rfl | rfl | rfl <;> (intro r hr; cases hr; decide +kernel)
  rcases (show ci = 0 ∨ ci = 1 ∨ ci = 2 ∨ ci = 3 ∨ ci = 4 ∨ ci = 5 ∨ ci = 6 ∨ ci = 7 ∨ ci = 8 ∨ ci = 9 ∨ ci = 10 ∨ ci = 11 by omega) with rfl | rfl | rfl | rfl | rfl | rfl | rfl | rfl | rfl | rfl | rfl | rfl
  · refine ⟨RX0, TX0, 5, tyX0, rfl, hin 0 (by decide) _ rfl, tyX0_ok, nmX0, ?_, ?_, ?_, ?_, ?_⟩
    · decide +kernel
    · decide +kernel
    · decide +kernel
    · intro k hk; rcases (show k = 0 ∨ k = 1 ∨ k = 2 ∨ k = 3 ∨ k = 4 by omega) with rfl | rfl | rfl | rfl | rfl <;> first | (intro q; exact absurd q (by decide +kernel)) | exact fun _ => ⟨_, Or.inl rfl⟩ | exact fun _ => ⟨"", Or.inr ⟨_, rfl⟩⟩
    · decide +kernel
  · refine ⟨RX1, TX1, 11, tyX1, rfl, hin 1 (by decide) _ rfl, tyX1_ok, nmX1, ?_, ?_, ?_, ?_, ?_⟩
    · decide +kernel
    · decide +kernel
    · decide +kernel
    · intro k hk; rcases (show k = 0 ∨ k = 1 ∨ k = 2 ∨ k = 3 ∨ k = 4 ∨ k = 5 ∨ k = 6 ∨ k = 7 ∨ k = 8 ∨ k = 9 ∨ k = 10 by omega) with rfl | rfl | rfl | rfl | rfl | rfl | rfl | rfl | rfl | rfl | rfl <;> first | (intro q; exact absurd q (by decide +kernel)) | exact fun _ => ⟨_, Or.inl rfl⟩ | exact fun _ => ⟨"", Or.inr ⟨_, rfl⟩⟩
    · decide +kernel
  · refine ⟨RX2, TX2, 5, tyX2, rfl, hin 2 (by decide) _ rfl, tyX2_ok, nmX2, ?_, ?_, ?_, ?_, ?_⟩
    · decide +kernel
    · decide +kernel
    · decide +kernel
    · intro k hk; rcases (show k = 0 ∨ k = 1 ∨ k = 2 ∨ k = 3 ∨ k = 4 by omega) with rfl | rfl | rfl | rfl | rfl <;> first | (intro q; exact absurd q (by decide +kernel)) | exact fun _ => ⟨_, Or.inl rfl⟩ | exact fun _ => ⟨"", Or.inr ⟨_, rfl⟩⟩
    · decide +kernel
  · refine ⟨RX3, TX3, 7, tyX3, rfl, hin 3 (by decide) _ rfl, tyX3_ok, nmX3, ?_, ?_, ?_, ?_, ?_⟩
    · decide +kernel
    · decide +kernel
    · decide +kernel
    · intro k hk; rcases (show k = 0 ∨ k = 1 ∨ k = 2 ∨ k = 3 ∨ k = 4 ∨ k = 5 ∨ k = 6 by omega) with rfl | rfl | rfl | rfl | rfl | rfl | rfl <;> first | (intro q; exact absurd q (by decide +kernel)) | exact fun _ => ⟨_, Or.inl rfl⟩ | exact fun _ => ⟨"", Or.inr ⟨_, rfl⟩⟩
    · decide +kernel
  · refine ⟨RX4, TX4, 3, tyX4, rfl, hin 4 (by decide) _ rfl, tyX4_ok, nmX4, ?_, ?_, ?_, ?_, ?_⟩
    · decide +kernel
    · decide +kernel
    · decide +kernel
    · intro k hk; rcases (show k = 0 ∨ k = 1 ∨ k = 2 by omega) with rfl | rfl | rfl <;> first | (intro q; exact absurd q (by decide +kernel)) | exact fun _ => ⟨_, Or.inl rfl⟩ | exact fun _ => ⟨"", Or.inr ⟨_, rfl⟩⟩
    · decide +kernel
  · refine ⟨RX5, TX5, 2, tyX5, rfl, hin 5 (by decide) _ rfl, tyX5_ok, nmX5, ?_, ?_, ?_, ?_, ?_⟩
    · decide +kernel
    · decide +kernel
    · decide +kernel
    · intro k hk; rcases (show k = 0 ∨ k = 1 by omega) with rfl | rfl <;> first | (intro q; exact absurd q (by decide +kernel)) | exact fun _ => ⟨_, Or.inl rfl⟩ | exact fun _ => ⟨"", Or.inr ⟨_, rfl⟩⟩
    · decide +kernel
  · refine ⟨RX6, TX6, 4, tyX6, rfl, hin 6 (by decide) _ rfl, tyX6_ok, nmX6, ?_, ?_, ?_, ?_, ?_⟩
    · decide +kernel
    · decide +kernel
    · decide +kernel
    · intro k hk; rcases (show k = 0 ∨ k = 1 ∨ k = 2 ∨ k = 3 by omega) with rfl | rfl | rfl | rfl <;> first | (intro q; exact absurd q (by decide +kernel)) | exact fun _ => ⟨_, Or.inl rfl⟩ | exact fun _ => ⟨"", Or.inr ⟨_, rfl⟩⟩
    · decide +kernel
  · refine ⟨RX7, TX7, 3, tyX7, rfl, hin 7 (by decide) _ rfl, tyX7_ok, nmX7, ?_, ?_, ?_, ?_, ?_⟩
    · decide +kernel
    · decide +kernel
    · decide +kernel
    · intro k hk; rcases (show k = 0 ∨ k = 1 ∨ k = 2 by omega) with rfl | rfl | rfl <;> first | (intro q; exact absurd q (by decide +kernel)) | exact fun _ => ⟨_, Or.inl rfl⟩ | exact fun _ => ⟨"", Or.inr ⟨_, rfl⟩⟩
    · decide +kernel
  · refine ⟨RX8, TX8, 16, tyX8, rfl, hin 8 (by decide) _ rfl, tyX8_ok, nmX8, ?_, ?_, ?_, ?_, ?_⟩
    · decide +kernel
    · decide +kernel
    · decide +kernel
    · intro k hk; rcases (show k = 0 ∨ k = 1 ∨ k = 2 ∨ k = 3 ∨ k = 4 ∨ k = 5 ∨ k = 6 ∨ k = 7 ∨ k = 8 ∨ k = 9 ∨ k = 10 ∨ k = 11 ∨ k = 12 ∨ k = 13 ∨ k = 14 ∨ k = 15 by omega) with rfl | rfl | rfl | rfl | rfl | rfl | rfl | rfl | rfl | rfl | rfl | rfl | rfl | rfl | rfl | rfl <;> first | (intro q; exact absurd q (by decide +kernel)) | exact fun _ => ⟨_, Or.inl rfl⟩ | exact fun _ => ⟨"", Or.inr ⟨_, rfl⟩⟩
    · decide +kernel
  · refine ⟨RX9, TX9, 5, tyX9, rfl, hin 9 (by decide) _ rfl, tyX9_ok, nmX9, ?_, ?_, ?_, ?_, ?_⟩
    · decide +kernel
    · decide +kernel
    · decide +kernel
    · intro k hk; rcases (show k = 0 ∨ k = 1 ∨ k = 2 ∨ k = 3 ∨ k = 4 by omega) with rfl | rfl | rfl | rfl | rfl <;> first | (intro q; exact absurd q (by decide +kernel)) | exact fun _ => ⟨_, Or.inl rfl⟩ | exact fun _ => ⟨"", Or.inr ⟨_, rfl⟩⟩
    · decide +kernel
  · refine ⟨RX10, TX10, 6, tyX10, rfl, hin 10 (by decide) _ rfl, tyX10_ok, nmX10, ?_, ?_, ?_, ?_, ?_⟩
    · decide +kernel
    · decide +kernel
    · decide +kernel
    · intro k hk; rcases (show k = 0 ∨ k = 1 ∨ k = 2 ∨ k = 3 ∨ k = 4 ∨ k = 5 by omega) with rfl | rfl | rfl | rfl | rfl | rfl <;> first | (intro q; exact absurd q (by decide +kernel)) | exact fun _ => ⟨_, Or.inl rfl⟩ | exact fun _ => ⟨"", Or.inr ⟨_, rfl⟩⟩
    · decide +kernel
  · refine ⟨RX11, TX11, 41, tyX11, rfl, hin 11 (by decide) _ rfl, tyX11_ok, nmX11, ?_, ?_, ?_, ?_, ?_⟩
    · decide +kernel
    · decide +kernel
    · decide +kernel
    · intro k hk; rcases (show k = 0 ∨ k = 1 ∨ k = 2 ∨ k = 3 ∨ k = 4 ∨ k = 5 ∨ k = 6 ∨ k = 7 ∨ k = 8 ∨ k = 9 ∨ k = 10 ∨ k = 11 ∨ k = 12 ∨ k = 13 ∨ k = 14 ∨ k = 15 ∨ k = 16 ∨ k = 17 ∨ k = 18 ∨ k = 19 ∨ k = 20 ∨ k = 21 ∨ k = 22 ∨ k = 23 ∨ k = 24 ∨ k = 25 ∨ k = 26 ∨ k = 27 ∨ k = 28 ∨ k = 29 ∨ k = 30 ∨ k = 31 ∨ k = 32 ∨ k = 33 ∨ k = 34 ∨ k = 35 ∨ k = 36 ∨ k = 37 ∨ k = 38 ∨ k = 39 ∨ k = 40 by omega) with rfl | rfl | rfl | rfl | rfl | rfl | rfl | rfl | rfl | rfl | rfl | rfl | rfl | rfl | rfl | rfl | rfl | rfl | rfl | rfl | rfl | rfl | rfl | rfl | rfl | rfl | rfl | rfl | rfl | rfl | rfl | rfl | rfl | rfl | rfl | rfl | rfl | rfl | rfl | rfl | rfl <;> first | (intro q; exact absurd q (by decide +kernel)) | exact fun _ => ⟨_, Or.inl rfl⟩ | exact fun _ => ⟨"", Or.inr ⟨_, rfl⟩⟩
    · decide +kernel
def r_geti (P : m_P) : Prop := ∀ (B : m_B) (pc : Nat) (L : m_L) (st : List Value) (h : m_H) (rc rs : Nat) (idx ci k i : Nat), decode B.1.2.1 pc = .ok (.getfield idx, 3) → m_FL B.1.1.cls idx ci k → i < h.1 → (h.2.1 i).1 = ci → m_kd ci k ≠ 2 → P B (pc + 3) L (.int (h.2.2.1 i k) :: st) h rc rs → P B pc L (.ref i :: st) h rc rs
theorem g_geti : r_geti (m_G l D b0 L0 xs) := by
  intro B pc L st h rc rs idx ci k i hd hf hi hs2 hkd kk p e s m args below meth c R A H locs cells slots ls ad ca n0 ad0 ca0 hc h1 h2 ha hs hM hS hl
  obtain ⟨hx, hb, hml, hr, hlk, hown, htb, hin, hE, hK, hRf, hRl, hA⟩ := id hc
  obtain ⟨C, T, N, hc1, hk, hw⟩ := hf
  obtain ⟨C', T', N', ty, hc2, hws, hty, hnm, hown2, k0, k1, k2, k3⟩ := m_ck ci (m_ck0 hc1)
  cases Option.some.inj (hc1.symm.trans hc2)
  have hlt : (h.2.1 i).1 < 100 := by have := m_ck0 hc1; omega
  have hge : (m_ws ad ca h)[i]? = some (ad i, .inr (ci, m_fs ad h i)) := by rw [m_ws_get hi, m_cell_o hlt, hs2]
  have hfs := m_fs_get (ad := ad) (h := h) (i := i) (k := k) (by rw [hs2, m_nf_of hc1]; exact hk)
  rw [hs2, if_neg hkd] at hfs
  exact va_get hx hb (m_Cx_ts hE) (m_ws_ok hws) hown hK hM.1 i hge hc1 k hk (hE.1 _ hw rfl _) (fun _ z => z) hfs hd (kk p e s m args below meth c R A H locs cells slots ls ad ca n0 ad0 ca0 hc h1 h2 ha hs hM hS hl)
def r_getr (P : m_P) : Prop := ∀ (B : m_B) (pc : Nat) (L : m_L) (st : List Value) (h : m_H) (rc rs : Nat) (idx ci k i j : Nat), decode B.1.2.1 pc = .ok (.getfield idx, 3) → m_FL B.1.1.cls idx ci k → i < h.1 → (h.2.1 i).1 = ci → m_kd ci k = 2 → h.2.2.2.1 i k = some j → P B (pc + 3) L (.ref j :: st) h rc rs → P B pc L (.ref i :: st) h rc rs
theorem g_getr : r_getr (m_G l D b0 L0 xs) := by
  intro B pc L st h rc rs idx ci k i j hd hf hi hs2 hkd hv kk p e s m args below meth c R A H locs cells slots ls ad ca n0 ad0 ca0 hc h1 h2 ha hs hM hS hl
  obtain ⟨hx, hb, hml, hr, hlk, hown, htb, hin, hE, hK, hRf, hRl, hA⟩ := id hc
  obtain ⟨C, T, N, hc1, hk, hw⟩ := hf
  obtain ⟨C', T', N', ty, hc2, hws, hty, hnm, hown2, k0, k1, k2, k3⟩ := m_ck ci (m_ck0 hc1)
  cases Option.some.inj (hc1.symm.trans hc2)
  have hlt : (h.2.1 i).1 < 100 := by have := m_ck0 hc1; omega
  have hge : (m_ws ad ca h)[i]? = some (ad i, .inr (ci, m_fs ad h i)) := by rw [m_ws_get hi, m_cell_o hlt, hs2]
  have hfs := m_fs_get (ad := ad) (h := h) (i := i) (k := k) (by rw [hs2, m_nf_of hc1]; exact hk)
  rw [hs2, if_pos hkd, hv] at hfs
  exact va_get hx hb (m_Cx_ts hE) (m_ws_ok hws) hown hK hM.1 i hge hc1 k hk (hE.1 _ hw rfl _) (fun _ z => z) hfs hd (kk p e s m args below meth c R A H locs cells slots ls ad ca n0 ad0 ca0 hc h1 h2 ha hs hM hS hl)
theorem m_fs_upI {ad : Nat → Nat} {ca : Nat → ClassId} {h : m_H} {i k ci : Nat} {x : Int32} (hlt : (h.2.1 i).1 < 100) (hs : (h.2.1 i).1 = ci) (hkd : m_kd ci k ≠ 2) : m_cell ad ca (m_upI h i k x) i = .inr (ci, (m_fs ad h i).set k (.int x)) := by
  rw [m_cell_o (h := m_upI h i k x) hlt]
  show Sum.inr ((h.2.1 i).1, _) = _
  rw [hs]
  congr 2
  apply List.ext_getElem?
  intro j
  by_cases hj : j < m_nf (h.2.1 i).1
  · rw [m_fs_get (h := m_upI h i k x) hj]
    by_cases hjk : j = k
    · subst hjk
      rw [List.getElem?_set_self (by rw [m_fs_len]; exact hj)]
      show some (if m_kd (h.2.1 i).1 j = 2 then _ else Value.int (m_up2 h.2.2.1 i j x i j)) = _
      rw [hs, if_neg hkd]
      simp [m_up2]
    · rw [List.getElem?_set_ne (fun q => hjk q.symm), m_fs_get hj]
      show some (if m_kd (h.2.1 i).1 j = 2 then va_rf ((h.2.2.2.1 i j).map ad) else Value.int (m_up2 h.2.2.1 i k x i j)) = _
      simp [m_up2, hjk]
  · rw [List.getElem?_eq_none (by rw [m_fs_len]; exact Nat.not_lt.mp hj), List.getElem?_eq_none (by rw [List.length_set, m_fs_len]; exact Nat.not_lt.mp hj)]
theorem m_fs_upR {ad : Nat → Nat} {ca : Nat → ClassId} {h : m_H} {i k ci : Nat} {x : Option Nat} (hlt : (h.2.1 i).1 < 100) (hs : (h.2.1 i).1 = ci) (hkd : m_kd ci k = 2) : m_cell ad ca (m_upR h i k x) i = .inr (ci, (m_fs ad h i).set k (va_rf (x.map ad))) := by
  rw [m_cell_o (h := m_upR h i k x) hlt]
  show Sum.inr ((h.2.1 i).1, _) = _
  rw [hs]
  congr 2
  apply List.ext_getElem?
  intro j
  by_cases hj : j < m_nf (h.2.1 i).1
  · rw [m_fs_get (h := m_upR h i k x) hj]
    by_cases hjk : j = k
    · subst hjk
      rw [List.getElem?_set_self (by rw [m_fs_len]; exact hj)]
      show some (if m_kd (h.2.1 i).1 j = 2 then va_rf ((m_up2 h.2.2.2.1 i j x i j).map ad) else _) = _
      rw [hs, if_pos hkd]
      simp [m_up2]
    · rw [List.getElem?_set_ne (fun q => hjk q.symm), m_fs_get hj]
      show some (if m_kd (h.2.1 i).1 j = 2 then va_rf ((m_up2 h.2.2.2.1 i k x i j).map ad) else Value.int (h.2.2.1 i j)) = _
      simp [m_up2, hjk]
  · rw [List.getElem?_eq_none (by rw [m_fs_len]; exact Nat.not_lt.mp hj), List.getElem?_eq_none (by rw [List.length_set, m_fs_len]; exact Nat.not_lt.mp hj)]
theorem m_cell_upI {ad : Nat → Nat} {ca : Nat → ClassId} {h : m_H} {i k : Nat} {x : Int32} : ∀ j, j ≠ i → m_cell ad ca (m_upI h i k x) j = m_cell ad ca h j := fun j hj => m_cell_row rfl (m_up2_row _ _ hj) rfl rfl
theorem m_cell_upR {ad : Nat → Nat} {ca : Nat → ClassId} {h : m_H} {i k : Nat} {x : Option Nat} : ∀ j, j ≠ i → m_cell ad ca (m_upR h i k x) j = m_cell ad ca h j := fun j hj => m_cell_row rfl rfl (m_up2_row _ _ hj) rfl
theorem m_cell_upL {ad : Nat → Nat} {ca : Nat → ClassId} {h : m_H} {i k : Nat} {x : Int64} : ∀ j, j ≠ i → m_cell ad ca (m_upL h i k x) j = m_cell ad ca h j := fun j hj => m_cell_row rfl rfl rfl (m_up2_row _ _ hj)
theorem m_arr_upI {ad : Nat → Nat} {ca : Nat → ClassId} {h : m_H} {i k : Nat} {x : Int32} (hk : 100 ≤ (h.2.1 i).1 ∧ (h.2.1 i).1 < 102) : m_cell ad ca (m_upI h i k x) i = .inl (ca i, (h.2.1 i).2, .inl (upd (h.2.2.1 i) k x)) := by
  rw [m_cell_i (h := m_upI h i k x) hk]
  show Sum.inl (ca i, (h.2.1 i).2, Sum.inl (m_up2 h.2.2.1 i k x i)) = _
  rw [m_up2_self]
  rfl
theorem m_arr_upL {ad : Nat → Nat} {ca : Nat → ClassId} {h : m_H} {i k : Nat} {x : Int64} (hk : (h.2.1 i).1 = 102) : m_cell ad ca (m_upL h i k x) i = .inl (ca i, (h.2.1 i).2, .inr (.inl (vp_updL (h.2.2.2.2 i) k x))) := by
  rw [m_cell_l (h := m_upL h i k x) hk]
  show Sum.inl (ca i, (h.2.1 i).2, Sum.inr (Sum.inl (m_up2 h.2.2.2.2 i k x i))) = _
  rw [m_up2_self]
  rfl
theorem m_arr_upR {ad : Nat → Nat} {ca : Nat → ClassId} {h : m_H} {i k : Nat} {x : Nat} (hk : 103 ≤ (h.2.1 i).1) : m_cell ad ca (m_upR h i k (some x)) i = .inl (ca i, (h.2.1 i).2, .inr (.inr (.inr (.inr (va_up (fun j => (h.2.2.2.1 i j).map ad) k (some (ad x))))))) := by
  rw [m_cell_q (h := m_upR h i k (some x)) hk]
  show Sum.inl (ca i, (h.2.1 i).2, Sum.inr (Sum.inr (Sum.inr (Sum.inr (fun j => (m_up2 h.2.2.2.1 i k (some x) i j).map ad))))) = _
  congr 7
  funext j
  simp only [m_up2, va_up, true_and]
  split <;> rfl
def r_puti (P : m_P) : Prop := ∀ (B : m_B) (pc : Nat) (L : m_L) (st : List Value) (h : m_H) (rc rs : Nat) (idx ci k i : Nat) (x : Int32), decode B.1.2.1 pc = .ok (.putfield idx, 3) → m_FL B.1.1.cls idx ci k → i < h.1 → (h.2.1 i).1 = ci → m_FP B.1.1.cls ci k false → m_kd ci k = 0 → P B (pc + 3) L st (m_upI h i k x) rc rs → P B pc L (.int x :: .ref i :: st) h rc rs
theorem g_puti : r_puti (m_G l D b0 L0 xs) := by
  intro B pc L st h rc rs idx ci k i x hd hf hi hs2 hp hkd kk p e s m args below meth c R A H locs cells slots ls ad ca n0 ad0 ca0 hc h1 h2 ha hs hM hS hl
  obtain ⟨hx, hb, hml, hr, hlk, hown, htb, hin, hE, hK, hRf, hRl, hA⟩ := id hc
  obtain ⟨C, T, N, hc1, hk, hw⟩ := hf
  obtain ⟨C', T', N', ty, hc2, hws, hty, hnm, hown2, k0, k1, k2, k3⟩ := m_ck ci (m_ck0 hc1)
  cases Option.some.inj (hc1.symm.trans hc2)
  have hlt : (h.2.1 i).1 < 100 := by have := m_ck0 hc1; omega
  have hge : (m_ws ad ca h)[i]? = some (ad i, .inr (ci, m_fs ad h i)) := by rw [m_ws_get hi, m_cell_o hlt, hs2]
  have hfs := m_fs_get (ad := ad) (h := h) (i := i) (k := k) (by rw [hs2, m_nf_of hc1]; exact hk)
  have hkl : k < (m_fs ad h i).length := by rw [m_fs_len, hs2, m_nf_of hc1]; exact hk
  obtain ⟨C9, T9, N9, hc9, hfin, hfo⟩ := hp
  cases Option.some.inj (hc1.symm.trans hc9)
  refine va_put (D := D) (v := (.int x)) hx hb (m_Cx_ts hE) (m_ws_ok hws) ty hty hnm hown hK hM.1 hM.2.1 hS i hge hc1 k hk (hE.1 _ hw rfl _) (fun _ z => z) hfin (hty k hk) (by rw [k0 k hk hkd]; rfl) (by rw [k0 k hk hkd]; rfl) hkl hd (fun H1 locs1 hP1 hD1 hS1 => ?_)
  refine kk p e s m args below meth c R A H1 locs1 cells slots ls ad ca n0 ad0 ca0 hc h1 h2 ha hs ⟨?_, ?_, hM.2.2⟩ hS1 hl
  · rw [m_ws_set (h := h) (h' := m_upI h i k x) rfl (i := i) (.inr (ci, (m_fs ad h i).set k (.int x))) ?_ ?_]
    · exact hP1
    · exact m_fs_upI hlt hs2 (by omega)
    · exact m_cell_upI
  · rw [m_ws_set (h := h) (h' := m_upI h i k x) rfl (i := i) (.inr (ci, (m_fs ad h i).set k (.int x))) ?_ ?_]
    · exact hD1
    · exact m_fs_upI hlt hs2 (by omega)
    · exact m_cell_upI
def r_putz (P : m_P) : Prop := ∀ (B : m_B) (pc : Nat) (L : m_L) (st : List Value) (h : m_H) (rc rs : Nat) (idx ci k i : Nat) (x : Int32), decode B.1.2.1 pc = .ok (.putfield idx, 3) → m_FL B.1.1.cls idx ci k → i < h.1 → (h.2.1 i).1 = ci → m_FP B.1.1.cls ci k false → m_kd ci k = 1 → (x = 0 ∨ x = 1) → P B (pc + 3) L st (m_upI h i k x) rc rs → P B pc L (.int x :: .ref i :: st) h rc rs
theorem g_putz : r_putz (m_G l D b0 L0 xs) := by
  intro B pc L st h rc rs idx ci k i x hd hf hi hs2 hp hkd hz kk p e s m args below meth c R A H locs cells slots ls ad ca n0 ad0 ca0 hc h1 h2 ha hs hM hS hl
  obtain ⟨hx, hb, hml, hr, hlk, hown, htb, hin, hE, hK, hRf, hRl, hA⟩ := id hc
  obtain ⟨C, T, N, hc1, hk, hw⟩ := hf
  obtain ⟨C', T', N', ty, hc2, hws, hty, hnm, hown2, k0, k1, k2, k3⟩ := m_ck ci (m_ck0 hc1)
  cases Option.some.inj (hc1.symm.trans hc2)
  have hlt : (h.2.1 i).1 < 100 := by have := m_ck0 hc1; omega
  have hge : (m_ws ad ca h)[i]? = some (ad i, .inr (ci, m_fs ad h i)) := by rw [m_ws_get hi, m_cell_o hlt, hs2]
  have hfs := m_fs_get (ad := ad) (h := h) (i := i) (k := k) (by rw [hs2, m_nf_of hc1]; exact hk)
  have hkl : k < (m_fs ad h i).length := by rw [m_fs_len, hs2, m_nf_of hc1]; exact hk
  obtain ⟨C9, T9, N9, hc9, hfin, hfo⟩ := hp
  cases Option.some.inj (hc1.symm.trans hc9)
  refine va_put (D := D) (v := (.int x)) hx hb (m_Cx_ts hE) (m_ws_ok hws) ty hty hnm hown hK hM.1 hM.2.1 hS i hge hc1 k hk (hE.1 _ hw rfl _) (fun _ z => z) hfin (hty k hk) (by rw [k1 k hk hkd]; rcases hz with rfl | rfl <;> rfl) (by rw [k1 k hk hkd]; rcases hz with rfl | rfl <;> rfl) hkl hd (fun H1 locs1 hP1 hD1 hS1 => ?_)
  refine kk p e s m args below meth c R A H1 locs1 cells slots ls ad ca n0 ad0 ca0 hc h1 h2 ha hs ⟨?_, ?_, hM.2.2⟩ hS1 hl
  · rw [m_ws_set (h := h) (h' := m_upI h i k x) rfl (i := i) (.inr (ci, (m_fs ad h i).set k (.int x))) ?_ ?_]
    · exact hP1
    · exact m_fs_upI hlt hs2 (by omega)
    · exact m_cell_upI
  · rw [m_ws_set (h := h) (h' := m_upI h i k x) rfl (i := i) (.inr (ci, (m_fs ad h i).set k (.int x))) ?_ ?_]
    · exact hD1
    · exact m_fs_upI hlt hs2 (by omega)
    · exact m_cell_upI
def r_putr (P : m_P) : Prop := ∀ (B : m_B) (pc : Nat) (L : m_L) (st : List Value) (h : m_H) (rc rs : Nat) (idx ci k i j : Nat), decode B.1.2.1 pc = .ok (.putfield idx, 3) → m_FL B.1.1.cls idx ci k → i < h.1 → (h.2.1 i).1 = ci → m_FP B.1.1.cls ci k true → m_kd ci k = 2 → B.1.1.name = "<init>" → P B (pc + 3) L st (m_upR h i k (some j)) rc rs → P B pc L (.ref j :: .ref i :: st) h rc rs
theorem g_putr : r_putr (m_G l D b0 L0 xs) := by
  intro B pc L st h rc rs idx ci k i j hd hf hi hs2 hp hkd hini kk p e s m args below meth c R A H locs cells slots ls ad ca n0 ad0 ca0 hc h1 h2 ha hs hM hS hl
  obtain ⟨hx, hb, hml, hr, hlk, hown, htb, hin, hE, hK, hRf, hRl, hA⟩ := id hc
  obtain ⟨C, T, N, hc1, hk, hw⟩ := hf
  obtain ⟨C', T', N', ty, hc2, hws, hty, hnm, hown2, k0, k1, k2, k3⟩ := m_ck ci (m_ck0 hc1)
  cases Option.some.inj (hc1.symm.trans hc2)
  have hlt : (h.2.1 i).1 < 100 := by have := m_ck0 hc1; omega
  have hge : (m_ws ad ca h)[i]? = some (ad i, .inr (ci, m_fs ad h i)) := by rw [m_ws_get hi, m_cell_o hlt, hs2]
  have hfs := m_fs_get (ad := ad) (h := h) (i := i) (k := k) (by rw [hs2, m_nf_of hc1]; exact hk)
  have hkl : k < (m_fs ad h i).length := by rw [m_fs_len, hs2, m_nf_of hc1]; exact hk
  obtain ⟨C9, T9, N9, hc9, hfin, hfo⟩ := hp
  cases Option.some.inj (hc1.symm.trans hc9)
  refine va_putF (D := D) (v := (.ref (ad j))) hx hb (m_Cx_ts hE) (m_ws_ok hws) ty hty hnm hown hK hM.1 hM.2.1 hS i hge hc1 k hk (hE.1 _ hw rfl _) (fun _ z => z) hfin (hin.trans hini) ((hown2 k hk).trans (hfo rfl)) (hty k hk) (by obtain ⟨c8, q | ⟨t8, q⟩⟩ := k2 k hk hkd <;> rw [q] <;> rfl) (by obtain ⟨c8, q | ⟨t8, q⟩⟩ := k2 k hk hkd <;> rw [q] <;> rfl) hkl hd (fun H1 locs1 hP1 hD1 hS1 => ?_)
  refine kk p e s m args below meth c R A H1 locs1 cells slots ls ad ca n0 ad0 ca0 hc h1 h2 ha hs ⟨?_, ?_, hM.2.2⟩ hS1 hl
  · rw [m_ws_set (h := h) (h' := m_upR h i k (some j)) rfl (i := i) (.inr (ci, (m_fs ad h i).set k (.ref (ad j)))) ?_ ?_]
    · exact hP1
    · exact m_fs_upR hlt hs2 hkd
    · exact m_cell_upR
  · rw [m_ws_set (h := h) (h' := m_upR h i k (some j)) rfl (i := i) (.inr (ci, (m_fs ad h i).set k (.ref (ad j)))) ?_ ?_]
    · exact hD1
    · exact m_fs_upR hlt hs2 hkd
    · exact m_cell_upR
def r_iald (P : m_P) : Prop := ∀ (B : m_B) (pc : Nat) (L : m_L) (st : List Value) (h : m_H) (rc rs : Nat) (i j : Nat), decode B.1.2.1 pc = .ok (.iaload, 1) → i < h.1 → (h.2.1 i).1 = 100 → j < (h.2.1 i).2 → (h.2.1 i).2 < 2 ^ 31 → P B (pc + 1) L (.int (h.2.2.1 i j) :: st) h rc rs → P B pc L (.int (nI j) :: .ref i :: st) h rc rs
theorem g_iald : r_iald (m_G l D b0 L0 xs) := by
  intro B pc L st h rc rs i j hd hi hk hj hjn kk p e s m args below meth c R A H locs cells slots ls ad ca n0 ad0 ca0 hc h1 h2 ha hs hM hS hl
  obtain ⟨hx, hb, hml, hr, hlk, hown, htb, hin, hE, hK, hRf, hRl, hA⟩ := id hc
  have hge : (m_ws ad ca h)[i]? = some (ad i, .inl (ca i, (h.2.1 i).2, .inl (h.2.2.1 i))) := by rw [m_ws_get hi, m_cell_i (by omega)]
  have hKa := hM.2.2 i hi (by omega)
  rw [show m_ty (h.2.1 i).1 = m_ty 100 by rw [hk]] at hKa
  have hcl : (nI j).toNatClampNeg = j := nI_clamp (by omega)
  refine va_iald hx hb hKa hM.1 i 0 hge rfl (vp_in_nI hj hjn) hd ?_
  rw [hcl]
  exact kk p e s m args below meth c R A H locs cells slots ls ad ca n0 ad0 ca0 hc h1 h2 ha hs hM hS hl
def r_zald (P : m_P) : Prop := ∀ (B : m_B) (pc : Nat) (L : m_L) (st : List Value) (h : m_H) (rc rs : Nat) (i j : Nat), decode B.1.2.1 pc = .ok (.baload, 1) → i < h.1 → (h.2.1 i).1 = 101 → j < (h.2.1 i).2 → (h.2.1 i).2 < 2 ^ 31 → P B (pc + 1) L (.int (h.2.2.1 i j) :: st) h rc rs → P B pc L (.int (nI j) :: .ref i :: st) h rc rs
theorem g_zald : r_zald (m_G l D b0 L0 xs) := by
  intro B pc L st h rc rs i j hd hi hk hj hjn kk p e s m args below meth c R A H locs cells slots ls ad ca n0 ad0 ca0 hc h1 h2 ha hs hM hS hl
  obtain ⟨hx, hb, hml, hr, hlk, hown, htb, hin, hE, hK, hRf, hRl, hA⟩ := id hc
  have hge : (m_ws ad ca h)[i]? = some (ad i, .inl (ca i, (h.2.1 i).2, .inl (h.2.2.1 i))) := by rw [m_ws_get hi, m_cell_i (by omega)]
  have hKa := hM.2.2 i hi (by omega)
  rw [show m_ty (h.2.1 i).1 = m_ty 101 by rw [hk]] at hKa
  have hcl : (nI j).toNatClampNeg = j := nI_clamp (by omega)
  refine va_zald hx hb hKa hM.1 i 0 hge rfl (vp_in_nI hj hjn) hd ?_
  rw [hcl]
  exact kk p e s m args below meth c R A H locs cells slots ls ad ca n0 ad0 ca0 hc h1 h2 ha hs hM hS hl
def r_lald (P : m_P) : Prop := ∀ (B : m_B) (pc : Nat) (L : m_L) (st : List Value) (h : m_H) (rc rs : Nat) (i j : Nat), decode B.1.2.1 pc = .ok (.laload, 1) → i < h.1 → (h.2.1 i).1 = 102 → j < (h.2.1 i).2 → (h.2.1 i).2 < 2 ^ 31 → P B (pc + 1) L (.long (h.2.2.2.2 i j) :: st) h rc rs → P B pc L (.int (nI j) :: .ref i :: st) h rc rs
theorem g_lald : r_lald (m_G l D b0 L0 xs) := by
  intro B pc L st h rc rs i j hd hi hk hj hjn kk p e s m args below meth c R A H locs cells slots ls ad ca n0 ad0 ca0 hc h1 h2 ha hs hM hS hl
  obtain ⟨hx, hb, hml, hr, hlk, hown, htb, hin, hE, hK, hRf, hRl, hA⟩ := id hc
  have hge : (m_ws ad ca h)[i]? = some (ad i, .inl (ca i, (h.2.1 i).2, .inr (.inl (h.2.2.2.2 i)))) := by rw [m_ws_get hi, m_cell_l hk]
  have hKa := hM.2.2 i hi (by omega)
  rw [show m_ty (h.2.1 i).1 = m_ty 102 by rw [hk]] at hKa
  have hcl : (nI j).toNatClampNeg = j := nI_clamp (by omega)
  refine va_lald hx hb hKa hM.1 i 0 hge rfl (vp_in_nI hj hjn) hd ?_
  rw [hcl]
  exact kk p e s m args below meth c R A H locs cells slots ls ad ca n0 ad0 ca0 hc h1 h2 ha hs hM hS hl
def r_aald (P : m_P) : Prop := ∀ (B : m_B) (pc : Nat) (L : m_L) (st : List Value) (h : m_H) (rc rs : Nat) (i j r : Nat), decode B.1.2.1 pc = .ok (.aaload, 1) → i < h.1 → ((h.2.1 i).1 = 103 ∨ (h.2.1 i).1 = 104) → j < (h.2.1 i).2 → (h.2.1 i).2 < 2 ^ 31 → h.2.2.2.1 i j = some r → P B (pc + 1) L (.ref r :: st) h rc rs → P B pc L (.int (nI j) :: .ref i :: st) h rc rs
theorem g_aald : r_aald (m_G l D b0 L0 xs) := by
  intro B pc L st h rc rs i j r hd hi hk hj hjn hr9 kk p e s m args below meth c R A H locs cells slots ls ad ca n0 ad0 ca0 hc h1 h2 ha hs hM hS hl
  obtain ⟨hx, hb, hml, hr, hlk, hown, htb, hin, hE, hK, hRf, hRl, hA⟩ := id hc
  have hge : (m_ws ad ca h)[i]? = some (ad i, .inl (ca i, (h.2.1 i).2, .inr (.inr (.inr (.inr (fun j => (h.2.2.2.1 i j).map ad)))))) := by rw [m_ws_get hi, m_cell_q (by omega)]
  have hKa := hM.2.2 i hi (by omega)
  have hcl : (nI j).toNatClampNeg = j := nI_clamp (by omega)
  rcases hk with hk | hk
  · rw [show m_ty (h.2.1 i).1 = .object RX8 by rw [hk]; rfl] at hKa
    refine va_aldq hx hb hKa hM.1 i 0 hge rfl (vp_in_nI hj hjn) hd ?_
    rw [hcl, hr9]
    exact kk p e s m args below meth c R A H locs cells slots ls ad ca n0 ad0 ca0 hc h1 h2 ha hs hM hS hl
  · rw [show m_ty (h.2.1 i).1 = .object RX3 by rw [hk]; rfl] at hKa
    refine va_aldq hx hb hKa hM.1 i 0 hge rfl (vp_in_nI hj hjn) hd ?_
    rw [hcl, hr9]
    exact kk p e s m args below meth c R A H locs cells slots ls ad ca n0 ad0 ca0 hc h1 h2 ha hs hM hS hl
def r_iast (P : m_P) : Prop := ∀ (B : m_B) (pc : Nat) (L : m_L) (st : List Value) (h : m_H) (rc rs : Nat) (i j : Nat) (x : Int32), decode B.1.2.1 pc = .ok (.iastore, 1) → i < h.1 → (h.2.1 i).1 = 100 → j < (h.2.1 i).2 → (h.2.1 i).2 < 2 ^ 31 → P B (pc + 1) L (st) (m_upI h i j x) rc rs → P B pc L (.int x :: .int (nI j) :: .ref i :: st) h rc rs
theorem g_iast : r_iast (m_G l D b0 L0 xs) := by
  intro B pc L st h rc rs i j x hd hi hk hj hjn kk p e s m args below meth c R A H locs cells slots ls ad ca n0 ad0 ca0 hc h1 h2 ha hs hM hS hl
  obtain ⟨hx, hb, hml, hr, hlk, hown, htb, hin, hE, hK, hRf, hRl, hA⟩ := id hc
  have hge : (m_ws ad ca h)[i]? = some (ad i, .inl (ca i, (h.2.1 i).2, .inl (h.2.2.1 i))) := by rw [m_ws_get hi, m_cell_i (by omega)]
  have hKa := hM.2.2 i hi (by omega)
  rw [show m_ty (h.2.1 i).1 = m_ty 100 by rw [hk]] at hKa
  have hcl : (nI j).toNatClampNeg = j := nI_clamp (by omega)
  refine va_iast hx hb hKa hM.1 hM.2.1 hS i 0 hge rfl (vp_in_nI hj hjn) hd (fun H1 locs1 hP1 hD1 hS1 => ?_)
  rw [hcl] at hP1 hD1
  refine kk p e s m args below meth c R A H1 locs1 cells slots ls ad ca n0 ad0 ca0 hc h1 h2 ha hs ⟨?_, ?_, hM.2.2⟩ hS1 hl
  · rw [m_ws_set (h := h) (h' := m_upI h i j x) rfl (i := i) _ (m_arr_upI (by omega)) (m_cell_upI)]
    exact hP1
  · rw [m_ws_set (h := h) (h' := m_upI h i j x) rfl (i := i) _ (m_arr_upI (by omega)) (m_cell_upI)]
    exact hD1
def r_zast (P : m_P) : Prop := ∀ (B : m_B) (pc : Nat) (L : m_L) (st : List Value) (h : m_H) (rc rs : Nat) (i j : Nat) (x : Int32), decode B.1.2.1 pc = .ok (.bastore, 1) → i < h.1 → (h.2.1 i).1 = 101 → j < (h.2.1 i).2 → (h.2.1 i).2 < 2 ^ 31 → (x = 0 ∨ x = 1) → P B (pc + 1) L (st) (m_upI h i j x) rc rs → P B pc L (.int x :: .int (nI j) :: .ref i :: st) h rc rs
theorem g_zast : r_zast (m_G l D b0 L0 xs) := by
  intro B pc L st h rc rs i j x hd hi hk hj hjn hz kk p e s m args below meth c R A H locs cells slots ls ad ca n0 ad0 ca0 hc h1 h2 ha hs hM hS hl
  obtain ⟨hx, hb, hml, hr, hlk, hown, htb, hin, hE, hK, hRf, hRl, hA⟩ := id hc
  have hge : (m_ws ad ca h)[i]? = some (ad i, .inl (ca i, (h.2.1 i).2, .inl (h.2.2.1 i))) := by rw [m_ws_get hi, m_cell_i (by omega)]
  have hKa := hM.2.2 i hi (by omega)
  rw [show m_ty (h.2.1 i).1 = m_ty 101 by rw [hk]] at hKa
  have hcl : (nI j).toNatClampNeg = j := nI_clamp (by omega)
  refine va_zast hx hb hKa hM.1 hM.2.1 hS i 0 hge rfl (vp_in_nI hj hjn) hd (fun H1 locs1 hP1 hD1 hS1 => ?_)
  have hzz : vp_nar .boolean x = x := by rcases hz with rfl | rfl <;> rfl
  rw [hcl, hzz] at hP1 hD1
  refine kk p e s m args below meth c R A H1 locs1 cells slots ls ad ca n0 ad0 ca0 hc h1 h2 ha hs ⟨?_, ?_, hM.2.2⟩ hS1 hl
  · rw [m_ws_set (h := h) (h' := m_upI h i j x) rfl (i := i) _ (m_arr_upI (by omega)) (m_cell_upI)]
    exact hP1
  · rw [m_ws_set (h := h) (h' := m_upI h i j x) rfl (i := i) _ (m_arr_upI (by omega)) (m_cell_upI)]
    exact hD1
def r_last (P : m_P) : Prop := ∀ (B : m_B) (pc : Nat) (L : m_L) (st : List Value) (h : m_H) (rc rs : Nat) (i j : Nat) (x : Int64), decode B.1.2.1 pc = .ok (.lastore, 1) → i < h.1 → (h.2.1 i).1 = 102 → j < (h.2.1 i).2 → (h.2.1 i).2 < 2 ^ 31 → P B (pc + 1) L (st) (m_upL h i j x) rc rs → P B pc L (.long x :: .int (nI j) :: .ref i :: st) h rc rs
theorem g_last : r_last (m_G l D b0 L0 xs) := by
  intro B pc L st h rc rs i j x hd hi hk hj hjn kk p e s m args below meth c R A H locs cells slots ls ad ca n0 ad0 ca0 hc h1 h2 ha hs hM hS hl
  obtain ⟨hx, hb, hml, hr, hlk, hown, htb, hin, hE, hK, hRf, hRl, hA⟩ := id hc
  have hge : (m_ws ad ca h)[i]? = some (ad i, .inl (ca i, (h.2.1 i).2, .inr (.inl (h.2.2.2.2 i)))) := by rw [m_ws_get hi, m_cell_l hk]
  have hKa := hM.2.2 i hi (by omega)
  rw [show m_ty (h.2.1 i).1 = m_ty 102 by rw [hk]] at hKa
  have hcl : (nI j).toNatClampNeg = j := nI_clamp (by omega)
  refine va_last hx hb hKa hM.1 hM.2.1 hS i 0 hge rfl (vp_in_nI hj hjn) hd (fun H1 locs1 hP1 hD1 hS1 => ?_)
  rw [hcl] at hP1 hD1
  refine kk p e s m args below meth c R A H1 locs1 cells slots ls ad ca n0 ad0 ca0 hc h1 h2 ha hs ⟨?_, ?_, hM.2.2⟩ hS1 hl
  · rw [m_ws_set (h := h) (h' := m_upL h i j x) rfl (i := i) _ (m_arr_upL hk) (m_cell_upL)]
    exact hP1
  · rw [m_ws_set (h := h) (h' := m_upL h i j x) rfl (i := i) _ (m_arr_upL hk) (m_cell_upL)]
    exact hD1
def r_aast (P : m_P) : Prop := ∀ (B : m_B) (pc : Nat) (L : m_L) (st : List Value) (h : m_H) (rc rs : Nat) (i j r : Nat), decode B.1.2.1 pc = .ok (.aastore, 1) → i < h.1 → ((h.2.1 i).1 = 103 ∧ (h.2.1 r).1 = 8 ∨ (h.2.1 i).1 = 104 ∧ (h.2.1 r).1 = 3) → r < h.1 → j < (h.2.1 i).2 → (h.2.1 i).2 < 2 ^ 31 → P B (pc + 1) L (st) (m_upR h i j (some r)) rc rs → P B pc L (.ref r :: .int (nI j) :: .ref i :: st) h rc rs
theorem g_aast : r_aast (m_G l D b0 L0 xs) := by
  intro B pc L st h rc rs i j r hd hi hk hr9 hj hjn kk p e s m args below meth c R A H locs cells slots ls ad ca n0 ad0 ca0 hc h1 h2 ha hs hM hS hl
  obtain ⟨hx, hb, hml, hr, hlk, hown, htb, hin, hE, hK, hRf, hRl, hA⟩ := id hc
  have hge : (m_ws ad ca h)[i]? = some (ad i, .inl (ca i, (h.2.1 i).2, .inr (.inr (.inr (.inr (fun j => (h.2.2.2.1 i j).map ad)))))) := by rw [m_ws_get hi, m_cell_q (by omega)]
  have hKa := hM.2.2 i hi (by omega)
  have hcl : (nI j).toNatClampNeg = j := nI_clamp (by omega)
  have hge2 : (m_ws ad ca h)[r]? = some (ad r, .inr ((h.2.1 r).1, m_fs ad h r)) := by rw [m_ws_get hr9, m_cell_o (by omega)]
  rcases hk with ⟨hk, hk2⟩ | ⟨hk, hk2⟩
  · rw [show m_ty (h.2.1 i).1 = .object RX8 by rw [hk]; rfl] at hKa
    refine va_astq (r := (RX8, TX8, 16)) hx hb hKa hM.1 hM.2.1 hS i 0 r (h.2.1 r).1 hge rfl hge2 (by rw [hk2]; rfl) (vp_in_nI hj hjn) hd (fun H1 locs1 hP1 hD1 hS1 => ?_)
    rw [hcl] at hP1 hD1
    refine kk p e s m args below meth c R A H1 locs1 cells slots ls ad ca n0 ad0 ca0 hc h1 h2 ha hs ⟨?_, ?_, hM.2.2⟩ hS1 hl
    · rw [m_ws_set (h := h) (h' := m_upR h i j (some r)) rfl (i := i) _ (m_arr_upR (by omega)) (m_cell_upR)]
      exact hP1
    · rw [m_ws_set (h := h) (h' := m_upR h i j (some r)) rfl (i := i) _ (m_arr_upR (by omega)) (m_cell_upR)]
      exact hD1
  · rw [show m_ty (h.2.1 i).1 = .object RX3 by rw [hk]; rfl] at hKa
    refine va_astq (r := (RX3, TX3, 7)) hx hb hKa hM.1 hM.2.1 hS i 0 r (h.2.1 r).1 hge rfl hge2 (by rw [hk2]; rfl) (vp_in_nI hj hjn) hd (fun H1 locs1 hP1 hD1 hS1 => ?_)
    rw [hcl] at hP1 hD1
    refine kk p e s m args below meth c R A H1 locs1 cells slots ls ad ca n0 ad0 ca0 hc h1 h2 ha hs ⟨?_, ?_, hM.2.2⟩ hS1 hl
    · rw [m_ws_set (h := h) (h' := m_upR h i j (some r)) rfl (i := i) _ (m_arr_upR (by omega)) (m_cell_upR)]
      exact hP1
    · rw [m_ws_set (h := h) (h' := m_upR h i j (some r)) rfl (i := i) _ (m_arr_upR (by omega)) (m_cell_upR)]
      exact hD1
def r_alen (P : m_P) : Prop := ∀ (B : m_B) (pc : Nat) (L : m_L) (st : List Value) (h : m_H) (rc rs : Nat) (i : Nat) (v : Int32), decode B.1.2.1 pc = .ok (.arraylength, 1) → i < h.1 → 100 ≤ (h.2.1 i).1 → Int32.ofNat (h.2.1 i).2 = v → P B (pc + 1) L (.int v :: st) h rc rs → P B pc L (.ref i :: st) h rc rs
theorem g_alen : r_alen (m_G l D b0 L0 xs) := by
  intro B pc L st h rc rs i v hd hi hk hv kk p e s m args below meth c R A H locs cells slots ls ad ca n0 ad0 ca0 hc h1 h2 ha hs hM hS hl
  obtain ⟨hx, hb, hml, hr, hlk, hown, htb, hin, hE, hK, hRf, hRl, hA⟩ := id hc
  have hKa := hM.2.2 i hi hk
  have hge := m_ws_get (ad := ad) (ca := ca) hi
  rcases (show (h.2.1 i).1 < 102 ∨ (h.2.1 i).1 = 102 ∨ 103 ≤ (h.2.1 i).1 by omega) with q | q | q
  · rw [m_cell_i ⟨hk, q⟩] at hge
    exact va_alen hx hb hKa hM.1 i 0 hge rfl hv hd (kk p e s m args below meth c R A H locs cells slots ls ad ca n0 ad0 ca0 hc h1 h2 ha hs hM hS hl)
  · rw [m_cell_l q] at hge
    exact va_alen hx hb hKa hM.1 i 0 hge rfl hv hd (kk p e s m args below meth c R A H locs cells slots ls ad ca n0 ad0 ca0 hc h1 h2 ha hs hM hS hl)
  · rw [m_cell_q q] at hge
    exact va_alen hx hb hKa hM.1 i 0 hge rfl hv hd (kk p e s m args below meth c R A H locs cells slots ls ad ca n0 ad0 ca0 hc h1 h2 ha hs hM hS hl)
end RULES2
