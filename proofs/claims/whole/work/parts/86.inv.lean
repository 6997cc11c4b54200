-- NAME inv
/-! what holds between calls -/
def i3 (I : m_I) : Prop := ∀ s, s < 20 → ∀ b, vpn I ≤ b → b < 32 → bt (I (scI s) 4) b = false
def i4 (I : m_I) : Prop := ∀ s, s < vm I → vp I s < vlc I
def i5 (I : m_I) : Prop := (∀ k, k < vm I → vo I k < vm I) ∧ ∀ i j, i < vm I → j < vm I → vo I i = vo I j → i = j
def i6 (I : m_I) : Prop := ∀ s, s < 20 → vN (I (scI s) 7) ≤ 26 ∧ vN (I (scI s) 3) ≤ 32 ∧ vN (I (scI s) 14) ≤ 1000
def i7 (I : m_I) : Prop := ∀ s, s < 20 → vm I ≤ s → I (scI s) 7 = 0 ∧ I (scI s) 15 = -1 ∧ I (scI s) 12 = 0 ∧ I (scI s) 11 = 0 ∧ ∀ t, t < 4 → I (waI s) t = -1 ∧ I (leI s) t = -1
def i8 (I : m_I) : Prop := ∀ s, s < 20 → ∀ b, vm I ≤ b → b < 32 → bt (I (scI s) 5) b = false
def i9 (I : m_I) : Prop := ∀ s, s < vm I → ¬ I (scI s) 11 = 0 → I (scI s) 15 = -1
def i10 (I : m_I) : Prop := ∀ t, t < 30 → ∀ p, vlc I ≤ p → p < 6 → bt (I (dyI t) 4) p = false
def i11 (I : m_I) : Prop := (∀ t, t < 30 → vN (I (dyI t) 0) ≤ 1200) ∧ ∀ k, k < 36 → vN (I 71 k) ≤ 300
def i12 (c : Nat) (I : m_I) : Prop := vN (I 73 0) ≤ 1000 * c ∧ vN (I 73 1) ≤ 32 * c
def i2 (I : m_I) : Prop := vpn I ≤ 8 ∧ vlc I ≤ 6 ∧ vt I < 30
def Iv (c : Nat) (I : m_I) : Prop := Vw I ∧ i2 I ∧ i3 I ∧ i4 I ∧ i5 I ∧ i6 I ∧ i7 I ∧ i8 I ∧ i9 I ∧ i10 I ∧ i11 I ∧ i12 c I
theorem i2_c {I I2 : m_I} (h : i2 I) (h1 : I2 65 4 = I 65 4) (h2 : I2 69 2 = I 69 2) (h3 : I2 72 4 = I 72 4) : i2 I2 := by
  unfold i2 vpn vlc vt
  rw [h1, h2, h3]
  exact h
theorem i3_c {I I2 : m_I} (h : i3 I) (h1 : I2 65 4 = I 65 4) (h2 : ∀ s, s < 20 → I2 (scI s) 4 = I (scI s) 4) : i3 I2 := by
  intro s hs b hb hb2
  unfold vpn at hb
  rw [h1] at hb
  rw [h2 s hs]
  exact h s hs b hb hb2
theorem i4_c {I I2 : m_I} (hm9 : vm I ≤ 20) (h : i4 I) (hm : I2 1 3 = I 1 3) (h1 : I2 69 2 = I 69 2) (h2 : ∀ s, s < 20 → I2 (scI s) 0 = I (scI s) 0) : i4 I2 := by
  intro s hs
  unfold vm at hs
  rw [hm] at hs
  have hs2 : s < vm I := hs
  unfold vp vlc
  rw [h1, h2 s (by omega)]
  exact h s hs
theorem i5_c {I I2 : m_I} (h : i5 I) (hm : I2 1 3 = I 1 3) (h1 : ∀ k, I2 3 k = I 3 k) : i5 I2 := by
  unfold i5 vm vo
  rw [hm]
  refine ⟨fun k hk => ?_, fun i j hi hj e => ?_⟩
  · rw [h1]
    exact h.1 k hk
  · rw [h1, h1] at e
    exact h.2 i j hi hj e
theorem i6_c {I I2 : m_I} (h : i6 I) (h1 : ∀ s, s < 20 → I2 (scI s) 7 = I (scI s) 7 ∧ I2 (scI s) 3 = I (scI s) 3 ∧ I2 (scI s) 14 = I (scI s) 14) : i6 I2 := by
  intro s hs
  obtain ⟨a, b, c⟩ := h1 s hs
  rw [a, b, c]
  exact h s hs
theorem i7_c {I I2 : m_I} (h : i7 I) (hm : I2 1 3 = I 1 3) (h1 : ∀ s, s < 20 → vm I ≤ s → I2 (scI s) 7 = I (scI s) 7 ∧ I2 (scI s) 15 = I (scI s) 15 ∧ I2 (scI s) 12 = I (scI s) 12 ∧ I2 (scI s) 11 = I (scI s) 11 ∧ ∀ t, t < 4 → I2 (waI s) t = I (waI s) t ∧ I2 (leI s) t = I (leI s) t) : i7 I2 := by
  intro s hs hs2
  unfold vm at hs2
  rw [hm] at hs2
  obtain ⟨a, b, c, d, e⟩ := h1 s hs hs2
  rw [a, b, c, d]
  obtain ⟨p, q, r, u, v⟩ := h s hs hs2
  refine ⟨p, q, r, u, fun t ht => ?_⟩
  rw [(e t ht).1, (e t ht).2]
  exact v t ht
theorem i8_c {I I2 : m_I} (h : i8 I) (hm : I2 1 3 = I 1 3) (h1 : ∀ s, s < 20 → I2 (scI s) 5 = I (scI s) 5) : i8 I2 := by
  intro s hs b hb hb2
  unfold vm at hb
  rw [hm] at hb
  rw [h1 s hs]
  exact h s hs b hb hb2
theorem i9_c {I I2 : m_I} (hm9 : vm I ≤ 20) (h : i9 I) (hm : I2 1 3 = I 1 3) (h1 : ∀ s, s < 20 → I2 (scI s) 11 = I (scI s) 11 ∧ I2 (scI s) 15 = I (scI s) 15) : i9 I2 := by
  intro s hs
  unfold vm at hs
  rw [hm] at hs
  have hs2 : s < vm I := hs
  rw [(h1 s (by omega)).1, (h1 s (by omega)).2]
  exact h s hs
theorem i10_c {I I2 : m_I} (h : i10 I) (h1 : I2 69 2 = I 69 2) (h2 : ∀ t, t < 30 → I2 (dyI t) 4 = I (dyI t) 4) : i10 I2 := by
  intro t ht p hp hp2
  unfold vlc at hp
  rw [h1] at hp
  rw [h2 t ht]
  exact h t ht p hp hp2
theorem i11_c {I I2 : m_I} (h : i11 I) (h1 : ∀ t, t < 30 → I2 (dyI t) 0 = I (dyI t) 0) (h2 : ∀ k, k < 36 → I2 71 k = I 71 k) : i11 I2 := by
  refine ⟨fun t ht => ?_, fun k hk => ?_⟩
  · rw [h1 t ht]
    exact h.1 t ht
  · rw [h2 k hk]
    exact h.2 k hk
theorem i12_c {c c2 : Nat} {I I2 : m_I} (h : i12 c I) (hc : c ≤ c2) (h1 : I2 73 0 = I 73 0) (h2 : I2 73 1 = I 73 1) : i12 c2 I2 := by
  unfold i12
  rw [h1, h2]
  have := h.1
  have := h.2
  omega
/-- the slots that it speaks of -/
def usd (a b : Nat) : Prop := (a = 1 ∧ b = 3) ∨ a = 3 ∨ (5 ≤ a ∧ a < 65 ∧ (((a - 5) % 3 ≠ 0 ∧ b < 4) ∨ b = 0 ∨ b = 3 ∨ b = 4 ∨ b = 5 ∨ b = 7 ∨ b = 11 ∨ b = 12 ∨ b = 14 ∨ b = 15)) ∨ (a = 65 ∧ b = 4) ∨ (a = 69 ∧ b = 2) ∨ a = 71 ∨ (a = 72 ∧ b = 4) ∨ a = 73 ∨ (80 ≤ a ∧ a < 140 ∧ ((a - 80) % 2 ≠ 0 ∨ b = 0 ∨ b = 4 ∨ b = 6))
theorem Iv_same {c c2 : Nat} {I I2 : m_I} (h : Iv c I) (hc : c ≤ c2) (hf : ∀ a b, usd a b → I2 a b = I a b) : Iv c2 I2 := by
  obtain ⟨h1, h2, h3, h4, h5, h6, h7, h8, h9, h10, h11, h12⟩ := h
  have hm := h1.1
  have em : I2 1 3 = I 1 3 := hf _ _ (by unfold usd; omega)
  have el : I2 69 2 = I 69 2 := hf _ _ (by unfold usd; omega)
  have ep : I2 65 4 = I 65 4 := hf _ _ (by unfold usd; omega)
  have es : ∀ s b, s < 20 → (b = 0 ∨ b = 3 ∨ b = 4 ∨ b = 5 ∨ b = 7 ∨ b = 11 ∨ b = 12 ∨ b = 14 ∨ b = 15) → I2 (scI s) b = I (scI s) b := fun s b hs hb => hf _ _ (by unfold usd scI; omega)
  have ew : ∀ s b, s < 20 → b < 4 → I2 (waI s) b = I (waI s) b := fun s b hs hb => hf _ _ (by unfold usd waI; omega)
  have ev : ∀ s b, s < 20 → b < 4 → I2 (leI s) b = I (leI s) b := fun s b hs hb => hf _ _ (by unfold usd leI; omega)
  have ed : ∀ t b, t < 30 → (b = 0 ∨ b = 4 ∨ b = 6) → I2 (dyI t) b = I (dyI t) b := fun t b ht hb => hf _ _ (by unfold usd dyI; omega)
  have er : ∀ t b, t < 30 → I2 (rwI t) b = I (rwI t) b := fun t b ht => hf _ _ (by unfold usd rwI; omega)
  refine ⟨Vw_cong h1 em (fun t ht => ⟨ed t 6 ht (by omega), fun j => er t j ht⟩) (fun s hs => ⟨es s 0 hs (by omega), es s 15 hs (by omega)⟩), i2_c h2 ep el (hf _ _ (by unfold usd; omega)), i3_c h3 ep (fun s hs => es s 4 hs (by omega)), i4_c hm h4 em el (fun s hs => es s 0 hs (by omega)), i5_c h5 em (fun k => hf _ _ (by unfold usd; omega)), i6_c h6 (fun s hs => ⟨es s 7 hs (by omega), es s 3 hs (by omega), es s 14 hs (by omega)⟩), i7_c h7 em (fun s hs _ => ⟨es s 7 hs (by omega), es s 15 hs (by omega), es s 12 hs (by omega), es s 11 hs (by omega), fun t ht => ⟨ew s t hs ht, ev s t hs ht⟩⟩), i8_c h8 em (fun s hs => es s 5 hs (by omega)), i9_c hm h9 em (fun s hs => ⟨es s 11 hs (by omega), es s 15 hs (by omega)⟩), i10_c h10 el (fun t ht => ed t 4 ht (by omega)), i11_c h11 (fun t ht => ed t 0 ht (by omega)) (fun k _ => hf _ _ (by unfold usd; omega)), i12_c h12 hc (hf _ _ (by unfold usd; omega)) (hf _ _ (by unfold usd; omega))⟩
/-- .. the board alone may change: its rows, the days of scenes, what is owed, scratch -/
theorem Iv_board {c c2 : Nat} {I I2 : m_I} (h : Iv c I) (hc : c ≤ c2) (hV : Vw I2) (h9 : i9 I2) (h7 : ∀ s, s < 20 → vm I ≤ s → I2 (scI s) 15 = -1) (hf : ∀ a b, usd a b → ¬ (5 ≤ a ∧ a < 65 ∧ b = 15) → ¬ (80 ≤ a ∧ a < 140 ∧ ((a - 80) % 2 ≠ 0 ∨ b = 6)) → I2 a b = I a b) : Iv c2 I2 := by
  obtain ⟨h1, h2, h3, h4, h5, h6, h7', h8, -, h10, h11, h12⟩ := h
  have hm := h1.1
  have em : I2 1 3 = I 1 3 := hf _ _ (by unfold usd; omega) (by omega) (by omega)
  have el : I2 69 2 = I 69 2 := hf _ _ (by unfold usd; omega) (by omega) (by omega)
  have ep : I2 65 4 = I 65 4 := hf _ _ (by unfold usd; omega) (by omega) (by omega)
  have es : ∀ s b, s < 20 → (b = 0 ∨ b = 3 ∨ b = 4 ∨ b = 5 ∨ b = 7 ∨ b = 11 ∨ b = 12 ∨ b = 14) → I2 (scI s) b = I (scI s) b := fun s b hs hb => hf _ _ (by unfold usd scI; omega) (by omega) (by unfold scI; omega)
  have ew : ∀ s b, s < 20 → b < 4 → I2 (waI s) b = I (waI s) b := fun s b hs hb => hf _ _ (by unfold usd waI; omega) (by omega) (by unfold waI; omega)
  have ev : ∀ s b, s < 20 → b < 4 → I2 (leI s) b = I (leI s) b := fun s b hs hb => hf _ _ (by unfold usd leI; omega) (by omega) (by unfold leI; omega)
  have ed : ∀ t b, t < 30 → (b = 0 ∨ b = 4) → I2 (dyI t) b = I (dyI t) b := fun t b ht hb => hf _ _ (by unfold usd dyI; omega) (by omega) (by unfold dyI; omega)
  refine ⟨hV, i2_c h2 ep el (hf _ _ (by unfold usd; omega) (by omega) (by omega)), i3_c h3 ep (fun s hs => es s 4 hs (by omega)), i4_c hm h4 em el (fun s hs => es s 0 hs (by omega)), i5_c h5 em (fun k => hf _ _ (by unfold usd; omega) (by omega) (by omega)), i6_c h6 (fun s hs => ⟨es s 7 hs (by omega), es s 3 hs (by omega), es s 14 hs (by omega)⟩), i7_c h7' em (fun s hs hs2 => ⟨es s 7 hs (by omega), (h7 s hs hs2).trans (h7' s hs hs2).2.1.symm, es s 12 hs (by omega), es s 11 hs (by omega), fun t ht => ⟨ew s t hs ht, ev s t hs ht⟩⟩), i8_c h8 em (fun s hs => es s 5 hs (by omega)), h9, i10_c h10 el (fun t ht => ed t 4 ht (by omega)), i11_c h11 (fun t ht => ed t 0 ht (by omega)) (fun k _ => hf _ _ (by unfold usd; omega) (by omega) (by omega)), i12_c h12 hc (hf _ _ (by unfold usd; omega) (by omega) (by omega)) (hf _ _ (by unfold usd; omega) (by omega) (by omega))⟩
theorem Iv_St {c : Nat} {I : m_I} (h : Iv c I) (hc : c ≤ 512) : St I (vpn I) := by
  obtain ⟨h1, h2, h3, h4, h5, h6, h7, h8, h9, h10, h11, h12⟩ := h
  refine ⟨⟨(nI_vN _).symm, h2.1⟩, h3, h4, ?_, ?_, fun s hs => (h6 s hs).2, h11.1, h11.2⟩
  · have := h12.1
    omega
  · have := h12.2
    omega
theorem Iv_Md {c : Nat} {I : m_I} (h : Iv c I) : Md I (vm I) := Vw_Md h.1
theorem Iv_Pn {c : Nat} {I : m_I} (h : Iv c I) : Pn I (vpn I) := ⟨(nI_vN _).symm, h.2.1.1⟩
theorem Iv_Lc {c : Nat} {I : m_I} (h : Iv c I) : Lc I (vlc I) := ⟨(nI_vN _).symm, h.2.1.2.1⟩
theorem Iv_o {c : Nat} {I : m_I} (h : Iv c I) : ∀ k, k < vm I → I 3 k = nI (vo I k) ∧ vo I k < 20 := fun k hk => ⟨(nI_vN _).symm, by have := h.2.2.2.2.1.1 k hk; have := h.1.1; omega⟩
/-- a call: both sides answer alike, and what holds goes on -/
def Okc (S : m_S) (c : Nat) (I : m_I) (Mc Mr : m_M) (A Ar : List Value) (Es : List String) : Prop :=
  (∃ (r : Option Value) (I1 I2 : m_I), (∀ lg d, 9 ≤ d → m_R S Mc d A (hh I lg) r (hh I1 lg)) ∧ (∀ lg d, 9 ≤ d → m_R S Mr d Ar (hh I1 lg) r (hh I2 lg)) ∧ I2 143 0 = nI 0 ∧ Iv (c + 1) I2 ∧ Cr I2 I2)
  ∨ ∃ (k : Nat) (E : String) (b : Option Value) (I2 : m_I), Es[k]? = some E ∧ (∀ lg d, 9 ≤ d → m_T S Mc d A (hh I lg) E) ∧ (∀ lg d, 9 ≤ d → m_R S Mr d Ar (hh I lg) b (hh I2 lg)) ∧ I2 143 0 = nI (k + 1) ∧ Iv (c + 1) I2 ∧ Cr I2 I2
/-- the reference leaves the class's alone -/
def fQ (J J2 : m_I) : Prop := ∀ a b, a < 143 → J2 a b = J a b
theorem fQ_up {J : m_I} {a b : Nat} {x : Int32} (h : 143 ≤ a) : fQ J (m_up2 J a b x) := fun c d hc => m_up2_ne (by omega)
theorem fQ_tr {I J K : m_I} (h : fQ I J) (h2 : fQ J K) : fQ I K := fun a b z => (h2 a b z).trans (h a b z)
theorem fQ_R {J J2 : m_I} (h : fR J J2) : fQ J J2 := fun a b z => h a b (Or.inl z)
theorem fQ_sm {J J2 : m_I} (h : smR J J2) : fQ J J2 := fun a b z => h a b (by omega)
theorem Okc_ok {S : m_S} {c : Nat} {I I1 : m_I} {Mc Mr : m_M} {A Ar : List Value} {Es : List String} {r : Option Value} (hm : vm I ≤ 20) (hC : Cr I I) (hc : ∀ lg d, 9 ≤ d → m_R S Mc d A (hh I lg) r (hh I1 lg)) (h1 : ∀ a b, 143 ≤ a → I1 a b = I a b) (hI : Iv (c + 1) I1) (hr : ∀ J, Cr I J → ∃ J2, (∀ lg d, 9 ≤ d → m_R S Mr d Ar (hh J lg) r (hh J2 lg)) ∧ Cr I1 J2 ∧ fQ J J2 ∧ J2 143 0 = nI 0) : Okc S c I Mc Mr A Ar Es := by
  obtain ⟨J2, g1, g2, g3, g4⟩ := hr I1 (Cr_ref hm hC (fun a b z _ _ => h1 a b z))
  refine Or.inl ⟨r, I1, J2, hc, g1, g4, Iv_same hI (Nat.le_refl _) (fun a b z => g3 a b (by unfold usd at z; omega)), ?_⟩
  exact Cr_cls (by have := hI.1.1; exact this) g2 (fun c d z _ _ _ => g3 c d (by omega))
theorem Okc_thr {S : m_S} {c k : Nat} {I : m_I} {Mc Mr : m_M} {A Ar : List Value} {Es : List String} {E : String} {b : Option Value} (hI : Iv c I) (hC : Cr I I) (hE : Es[k]? = some E) (hc : ∀ lg d, 9 ≤ d → m_T S Mc d A (hh I lg) E) (hr : ∀ lg d, 9 ≤ d → m_R S Mr d Ar (hh I lg) b (hh (m_up2 I 143 0 (nI (k + 1))) lg)) : Okc S c I Mc Mr A Ar Es := by
  refine Or.inr ⟨k, E, b, _, hE, hc, hr, m_up2_eq, Iv_same hI (by omega) (fun a b z => m_up2_ne (by unfold usd at z; omega)), ?_⟩
  exact Cr_cong hI.1.1 hC (fun c d z => m_up2_ne (by unfold okC at z; omega)) (fun a b z => m_up2_ne (by unfold lvR at z; omega)) (m_up2_ne (by omega)) (fun t ht => ⟨m_up2_ne (by unfold dyI; omega), m_up2_ne (by unfold dyI; omega)⟩) (fun p => ⟨m_up2_ne (by omega), m_up2_ne (by omega), m_up2_ne (by omega)⟩)
/-! what the reference refuses -/
theorem kr_gw0 {S : m_S} {J : m_I} {lg : Int64} {d : Nat} : m_R S M_X11_goesWell d [.ref 143, .int (nI 0)] (hh J lg) (some (.int (bi true))) (hh (m_up2 J 143 0 (nI 0)) lg) := kr_goesWell
theorem kr_gwk {S : m_S} {J : m_I} {lg : Int64} {d : Nat} (k : Nat) (hk : k < 4) : m_R S M_X11_goesWell d [.ref 143, .int (nI (k + 1))] (hh J lg) (some (.int (bi false))) (hh (m_up2 J 143 0 (nI (k + 1))) lg) := by
  have e := kr_goesWell (S := S) (I := J) (lg := lg) (d := d) (x := nI (k + 1))
  rw [decide_eq_false (nI_ne0 (Nat.succ_pos k) (by omega))] at e
  exact e
theorem kr_in1 {S : m_S} {h : m_H} {d : Nat} {v a b : Int32} (z : a ≤ v ∧ v ≤ b) : m_R S M_X11_in d [.int v, .int a, .int b] h (some (.int (bi true))) h := by
  have e := kr_in (S := S) (h := h) (d := d) (v := v) (a := a) (b := b)
  rw [show inB v a b = true from decide_eq_true z] at e
  exact e
theorem kr_in0 {S : m_S} {h : m_H} {d : Nat} {v a b : Int32} (z : ¬ (a ≤ v ∧ v ≤ b)) : m_R S M_X11_in d [.int v, .int a, .int b] h (some (.int (bi false))) h := by
  have e := kr_in (S := S) (h := h) (d := d) (v := v) (a := a) (b := b)
  rw [show inB v a b = false from decide_eq_false z] at e
  exact e
/-- a number below a count, or none -/
theorem ix_or (x : Int32) {n : Nat} (hn : n < 1000) : (∃ j, j < n ∧ x = nI j) ∨ ∀ j, j < n → x ≠ nI j := by
  rcases inB_ix x hn with ⟨j, h1, h2, -⟩ | ⟨h, -⟩
  · exact Or.inl ⟨j, h1, h2⟩
  · exact Or.inr h
theorem inB_1 {j n : Nat} (hn : n < 1000) (hj : j < n) : inB (nI j) (nI 0) (nI n - nI 1) = true := by
  rcases inB_ix (nI j) hn with ⟨_, _, _, h⟩ | ⟨h, -⟩
  · exact h
  · exact absurd rfl (h j hj)
theorem inB_0 {x : Int32} {n : Nat} (hn : n < 1000) (hx : ∀ j, j < n → x ≠ nI j) : inB x (nI 0) (nI n - nI 1) = false := by
  rcases inB_ix x hn with ⟨j, h1, h2, -⟩ | ⟨-, h⟩
  · exact absurd h2 (hx j h1)
  · exact h
theorem kr_sc1 {S : m_S} {J : m_I} {lg : Int64} {d m j : Nat} (hd : 2 ≤ d) (hm : J 143 3 = nI m) (hm2 : m ≤ 20) (hj : j < m) : m_R S M_X11_isScene d [.ref 143, .int (nI j)] (hh J lg) (some (.int (bi true))) (hh J lg) := by
  have e := kr_isScene (S := S) (I := J) (lg := lg) (x := nI j) hd
  rw [hm, inB_1 (by omega) hj] at e
  exact e
theorem kr_sc0 {S : m_S} {J : m_I} {lg : Int64} {d m : Nat} {x : Int32} (hd : 2 ≤ d) (hm : J 143 3 = nI m) (hm2 : m ≤ 20) (hx : ∀ j, j < m → x ≠ nI j) : m_R S M_X11_isScene d [.ref 143, .int x] (hh J lg) (some (.int (bi false))) (hh J lg) := by
  have e := kr_isScene (S := S) (I := J) (lg := lg) (x := x) hd
  rw [hm, inB_0 (by omega) hx] at e
  exact e
theorem kr_pe1 {S : m_S} {J : m_I} {lg : Int64} {d m j : Nat} (hd : 2 ≤ d) (hm : J 143 22 = nI m) (hm2 : m ≤ 8) (hj : j < m) : m_R S M_X11_isPerson d [.ref 143, .int (nI j)] (hh J lg) (some (.int (bi true))) (hh J lg) := by
  have e := kr_isPerson (S := S) (I := J) (lg := lg) (x := nI j) hd
  rw [hm, inB_1 (by omega) hj] at e
  exact e
theorem kr_pe0 {S : m_S} {J : m_I} {lg : Int64} {d m : Nat} {x : Int32} (hd : 2 ≤ d) (hm : J 143 22 = nI m) (hm2 : m ≤ 8) (hx : ∀ j, j < m → x ≠ nI j) : m_R S M_X11_isPerson d [.ref 143, .int x] (hh J lg) (some (.int (bi false))) (hh J lg) := by
  have e := kr_isPerson (S := S) (I := J) (lg := lg) (x := x) hd
  rw [hm, inB_0 (by omega) hx] at e
  exact e
theorem kr_pl1 {S : m_S} {J : m_I} {lg : Int64} {d m j : Nat} (hd : 2 ≤ d) (hm : J 143 28 = nI m) (hm2 : m ≤ 6) (hj : j < m) : m_R S M_X11_isPlace d [.ref 143, .int (nI j)] (hh J lg) (some (.int (bi true))) (hh J lg) := by
  have e := kr_isPlace (S := S) (I := J) (lg := lg) (x := nI j) hd
  rw [hm, inB_1 (by omega) hj] at e
  exact e
theorem kr_pl0 {S : m_S} {J : m_I} {lg : Int64} {d m : Nat} {x : Int32} (hd : 2 ≤ d) (hm : J 143 28 = nI m) (hm2 : m ≤ 6) (hx : ∀ j, j < m → x ≠ nI j) : m_R S M_X11_isPlace d [.ref 143, .int x] (hh J lg) (some (.int (bi false))) (hh J lg) := by
  have e := kr_isPlace (S := S) (I := J) (lg := lg) (x := x) hd
  rw [hm, inB_0 (by omega) hx] at e
  exact e
theorem kr_dy1 {S : m_S} {h : m_H} {d j : Nat} (hd : 2 ≤ d) (hj : j < 30) : m_R S M_X11_isDay d [.int (nI j)] h (some (.int (bi true))) h := by
  have e := kr_isDay (S := S) (h := h) (x := nI j) hd
  rw [show inB (nI j) (nI 0) (nI 29) = true from inB_1 (n := 30) (by omega) hj] at e
  exact e
theorem kr_dy0 {S : m_S} {h : m_H} {d : Nat} {x : Int32} (hd : 2 ≤ d) (hx : ∀ j, j < 30 → x ≠ nI j) : m_R S M_X11_isDay d [.int x] h (some (.int (bi false))) h := by
  have e := kr_isDay (S := S) (h := h) (x := x) hd
  rw [show inB x (nI 0) (nI 29) = false from inB_0 (n := 30) (by omega) hx] at e
  exact e
/-- told that it goes well: nothing else changes -/
theorem Cr_thr {I J : m_I} (hm : vm I ≤ 20) (h : Cr I J) (x : Int32) : Cr I (m_up2 J 143 0 x) := Cr_ref hm h (fun a b z1 z2 z3 => m_up2_ne z3)

