-- NAME count
/-! how many bits: the machine's own sum, byte by byte -/
theorem an8 {a b c e : Nat} (hb : b < 256) (he : e < 256) : (256 * a + b) &&& (256 * c + e) = 256 * (a &&& c) + (b &&& e) := by
  show (2 ^ 8 * a + b) &&& (2 ^ 8 * c + e) = 2 ^ 8 * (a &&& c) + (b &&& e)
  apply Nat.eq_of_testBit_eq
  intro j
  rw [Nat.testBit_and, Nat.testBit_two_pow_mul_add a (i := 8) hb j, Nat.testBit_two_pow_mul_add c (i := 8) he j, Nat.testBit_two_pow_mul_add (a &&& c) (i := 8) (Nat.and_lt_two_pow b he) j]
  split
  · rw [Nat.testBit_and]
  · rw [Nat.testBit_and]
def w1 (m a : Nat) : Nat := a - ((a / 2) &&& m)
def w2 (m a : Nat) : Nat := (a &&& m) + ((a / 4) &&& m)
def w3 (m a : Nat) : Nat := (a + a / 16) &&& m
theorem w1_l : ∀ l, l < 256 → ∀ r, r < 2 → (128 * r + l / 2) &&& 85 = (l / 2) &&& 85 := by decide +kernel
theorem w2_l : ∀ l, l < 256 → ∀ r, r < 4 → (64 * r + l / 4) &&& 51 = (l / 4) &&& 51 := by decide +kernel
theorem w1_la {M h l : Nat} (hl : l < 256) : w1 (256 * M + 85) (256 * h + l) = 256 * w1 M h + w1 85 l := by
  have e : (256 * h + l) / 2 = 256 * (h / 2) + (128 * (h % 2) + l / 2) := by omega
  have h1 : (h / 2) &&& M ≤ h / 2 := Nat.and_le_left
  have h2 : (l / 2) &&& 85 ≤ l / 2 := Nat.and_le_left
  unfold w1
  rw [e, an8 (by omega) (by omega), w1_l l hl (h % 2) (by omega)]
  omega
theorem w2_la {M h l : Nat} (hl : l < 256) : w2 (256 * M + 51) (256 * h + l) = 256 * w2 M h + w2 51 l := by
  have e : (256 * h + l) / 4 = 256 * (h / 4) + (64 * (h % 4) + l / 4) := by omega
  unfold w2
  rw [e, an8 hl (by omega), an8 (by omega) (by omega), w2_l l hl (h % 4) (by omega)]
  omega
theorem w3_la {M h c : Nat} (hc : c ≤ 68) (hh : h % 16 ≤ 4) : w3 (256 * M + 15) (256 * h + c) = 256 * w3 M h + w3 15 c := by
  have e : 256 * h + c + (256 * h + c) / 16 = 256 * (h + h / 16) + (16 * (h % 16) + (c + c / 16)) := by omega
  unfold w3
  rw [e, an8 (by omega) (by omega)]
  rw [show (15 : Nat) = 2 ^ 4 - 1 from rfl, Nat.and_two_pow_sub_one_eq_mod, Nat.and_two_pow_sub_one_eq_mod]
  omega
/-- one byte's share -/
def wq (l : Nat) : Nat := w2 51 (w1 85 l)
theorem wq_ok : ∀ l, l < 256 → w1 85 l < 256 ∧ wq l ≤ 68 ∧ wq l % 16 ≤ 4 ∧ w3 15 (wq l) = fb_ct (fun i => l.testBit i) 8 ∧ fb_ct (fun i => l.testBit i) 8 ≤ 8 := by decide +kernel
def w4 (a : Nat) : Nat := w3 252645135 (w2 858993459 (w1 1431655765 a))
theorem w4_by {x y z : Nat} (hx : x < 256) (hy : y < 256) (hz : z < 256) : w4 (256 * (256 * z + y) + x) = 256 * (256 * fb_ct (fun i => z.testBit i) 8 + fb_ct (fun i => y.testBit i) 8) + fb_ct (fun i => x.testBit i) 8 := by
  obtain ⟨x1, x2, x3, x4, x5⟩ := wq_ok x hx
  obtain ⟨y1, y2, y3, y4, y5⟩ := wq_ok y hy
  obtain ⟨z1, z2, z3, z4, z5⟩ := wq_ok z hz
  have hz0 : z = 256 * 0 + z := by omega
  have e1 : w1 1431655765 (256 * (256 * z + y) + x) = 256 * (256 * w1 85 z + w1 85 y) + w1 85 x := by
    show w1 (256 * (256 * (256 * 85 + 85) + 85) + 85) _ = _
    rw [w1_la hx, w1_la hy]
    have e := w1_la (M := 85) (h := 0) hz
    rw [show 256 * 0 + z = z by omega] at e
    rw [e, show w1 85 0 = 0 from rfl]
    omega
  have e2 : w2 858993459 (256 * (256 * w1 85 z + w1 85 y) + w1 85 x) = 256 * (256 * wq z + wq y) + wq x := by
    show w2 (256 * (256 * (256 * 51 + 51) + 51) + 51) _ = _
    rw [w2_la x1, w2_la y1]
    have e := w2_la (M := 51) (h := 0) z1
    rw [show 256 * 0 + w1 85 z = w1 85 z by omega] at e
    rw [e, show w2 51 0 = 0 from rfl]
    show 256 * (256 * (256 * 0 + wq z) + wq y) + wq x = _
    omega
  have e3 : w3 252645135 (256 * (256 * wq z + wq y) + wq x) = 256 * (256 * w3 15 (wq z) + w3 15 (wq y)) + w3 15 (wq x) := by
    show w3 (256 * (256 * (256 * 15 + 15) + 15) + 15) _ = _
    rw [w3_la x2 (by omega), w3_la y2 (by omega)]
    have e := w3_la (M := 15) (h := 0) z2 (by omega)
    rw [show 256 * 0 + wq z = wq z by omega] at e
    rw [e, show w3 15 0 = 0 from rfl]
    omega
  unfold w4
  rw [e1, e2, e3, x4, y4, z4]
theorem fb_ct_add (p : Nat → Bool) (m : Nat) : ∀ n, fb_ct p (m + n) = fb_ct p m + fb_ct (fun i => p (m + i)) n
  | 0 => rfl
  | n + 1 => by
    show fb_ct p (m + n + 1) = _
    rw [fb_ct_succ, fb_ct_succ, fb_ct_add p m n]
    omega
theorem w5 {a : Nat} (ha : a < 16777216) : (w4 a + w4 a / 256 + (w4 a + w4 a / 256) / 65536) % 64 = fb_ct (fun i => a.testBit i) 24 := by
  obtain ⟨x, y, z, hx, hy, hz, e⟩ : ∃ x y z, x < 256 ∧ y < 256 ∧ z < 256 ∧ a = 256 * (256 * z + y) + x := ⟨a % 256, a / 256 % 256, a / 65536, by omega, by omega, by omega, by omega⟩
  subst e
  rw [w4_by hx hy hz]
  have hx5 := (wq_ok x hx).2.2.2.2
  have hy5 := (wq_ok y hy).2.2.2.2
  have hz5 := (wq_ok z hz).2.2.2.2
  have t : ∀ (h l i : Nat), l < 256 → (256 * h + l).testBit i = if i < 8 then l.testBit i else h.testBit (i - 8) := fun h l i hl => Nat.testBit_two_pow_mul_add h (i := 8) hl i
  have e : fb_ct (fun i => (256 * (256 * z + y) + x).testBit i) 24 = fb_ct (fun i => x.testBit i) 8 + (fb_ct (fun i => y.testBit i) 8 + fb_ct (fun i => z.testBit i) 8) := by
    show fb_ct _ (8 + (8 + 8)) = _
    rw [fb_ct_add, fb_ct_add]
    congr 1
    · exact fb_ct_cong (fun i hi => (t _ _ _ hx).trans (if_pos hi))
    · congr 1
      · exact fb_ct_cong (fun i hi => (t _ _ _ hx).trans ((if_neg (by omega)).trans (by rw [t _ _ _ hy, if_pos (by omega), show 8 + i - 8 = i by omega])))
      · exact fb_ct_cong (fun i hi => (t _ _ _ hx).trans ((if_neg (by omega)).trans (by rw [t _ _ _ hy, if_neg (by omega), show 8 + (8 + i) - 8 - 8 = i by omega])))
  rw [e]
  generalize fb_ct (fun i => x.testBit i) 8 = dx at *
  generalize fb_ct (fun i => y.testBit i) 8 = dy at *
  generalize fb_ct (fun i => z.testBit i) 8 = dz at *
  have h1 : (256 * (256 * dz + dy) + dx) / 256 = 256 * dz + dy := by omega
  rw [h1]
  have h2 : (256 * (256 * dz + dy) + dx + (256 * dz + dy)) / 65536 = dz := by omega
  rw [h2]
  omega
theorem nx_us {k j : Nat} (hk : k < 4294967296) (hj : j < 32) : ((nI k).toUInt32 >>> ((nI j).toUInt32 &&& Int32.toUInt32 31)).toInt32 = nI (k >>> j) := by
  have hs : k >>> j ≤ k := by
    rw [Nat.shiftRight_eq_div_pow]
    exact Nat.div_le_self _ _
  have e2 : UInt32.ofNat k >>> (UInt32.ofNat j &&& Int32.toUInt32 31) = UInt32.ofNat (k >>> j) := by
    apply UInt32.toNat_inj.1
    have h1 : (UInt32.ofNat k).toNat = k := Nat.mod_eq_of_lt (by omega)
    have h2 : (UInt32.ofNat (k >>> j)).toNat = k >>> j := Nat.mod_eq_of_lt (by omega)
    rw [UInt32.toNat_shiftRight, nx_cnt ⟨j, hj⟩, h1, h2]
  show (UInt32.ofNat k >>> (UInt32.ofNat j &&& Int32.toUInt32 31)).toInt32 = _
  rw [e2]
  rfl
def us (x y : Int32) : Int32 := (x.toUInt32 >>> (y.toUInt32 &&& Int32.toUInt32 31)).toInt32
theorem us_nI {k : Nat} (j : Nat) (hk : k < 4294967296) (hj : j < 32) : us (nI k) (nI j) = nI (k / 2 ^ j) := by
  rw [← Nat.shiftRight_eq_div_pow]
  exact nx_us hk hj
def u1 (x : Int32) : Int32 := x - (us x 1 &&& 1431655765)
def u2 (x : Int32) : Int32 := (x &&& 858993459) + (us x 2 &&& 858993459)
def u3 (x : Int32) : Int32 := (x + us x 4) &&& 252645135
def u4 (x : Int32) : Int32 := x + us x 8
def u5 (x : Int32) : Int32 := x + us x 16
def u6 (x : Int32) : Int32 := u5 (u4 (u3 (u2 (u1 x)))) &&& 63
theorem u6_nI {a : Nat} (ha : a < 16777216) : u6 (nI a) = nI (fb_ct (fun i => a.testBit i) 24) := by
  have l1 : (a / 2) &&& 1431655765 ≤ a / 2 := Nat.and_le_left
  have e1 : u1 (nI a) = nI (w1 1431655765 a) := by
    show nI a - (us (nI a) (nI 1) &&& nI 1431655765) = _
    rw [us_nI 1 (by omega) (by decide), nx_and]
    exact pk_sub (Nat.le_trans l1 (Nat.div_le_self _ _))
  have b1 : w1 1431655765 a ≤ a := Nat.sub_le _ _
  have e2 : u2 (nI (w1 1431655765 a)) = nI (w2 858993459 (w1 1431655765 a)) := by
    show (nI _ &&& nI 858993459) + (us (nI _) (nI 2) &&& nI 858993459) = _
    rw [us_nI 2 (by omega) (by decide), nx_and, nx_and, nI_add]
    rfl
  have b2 : w2 858993459 (w1 1431655765 a) ≤ 33554432 := by
    have h1 : w1 1431655765 a &&& 858993459 ≤ w1 1431655765 a := Nat.and_le_left
    have h2 : w1 1431655765 a / 4 &&& 858993459 ≤ w1 1431655765 a / 4 := Nat.and_le_left
    unfold w2
    omega
  have e3 : u3 (nI (w2 858993459 (w1 1431655765 a))) = nI (w4 a) := by
    show (nI _ + us (nI _) (nI 4)) &&& nI 252645135 = _
    rw [us_nI 4 (by omega) (by decide), nI_add, nx_and]
    rfl
  have b3 : w4 a ≤ 252645135 := Nat.and_le_right
  have e4 : u4 (nI (w4 a)) = nI (w4 a + w4 a / 256) := by
    show nI _ + us (nI _) (nI 8) = _
    rw [us_nI 8 (by omega) (by decide), nI_add]
  have e5 : u5 (nI (w4 a + w4 a / 256)) = nI (w4 a + w4 a / 256 + (w4 a + w4 a / 256) / 65536) := by
    show nI _ + us (nI _) (nI 16) = _
    rw [us_nI 16 (by omega) (by decide), nI_add]
  unfold u6
  rw [e1, e2, e3, e4, e5]
  show nI _ &&& nI (2 ^ 6 - 1) = _
  rw [nx_and, Nat.and_two_pow_sub_one_eq_mod]
  exact congrArg nI (w5 ha)
/-- the number whose bits are told -/
theorem bt_nat {x : Int32} {n : Nat} (hn : n ≤ 31) (h : ∀ i, n ≤ i → i < 32 → bt x i = false) : ∃ a, a < 2 ^ n ∧ x = nI a := by
  refine ⟨x.toBitVec.toNat, ?_, ?_⟩
  · apply Nat.lt_pow_two_of_testBit
    intro i hi
    by_cases h2 : i < 32
    · exact h i hi h2
    · exact Nat.testBit_lt_two_pow (Nat.lt_of_lt_of_le x.toBitVec.isLt (Nat.pow_le_pow_right (by decide) (by omega)))
  · apply Int32.toBitVec_inj.1
    show x.toBitVec = BitVec.ofNat 32 x.toBitVec.toNat
    rw [BitVec.ofNat_toNat, BitVec.setWidth_eq]
theorem u6_pc {x : Int32} {n : Nat} (hn : n ≤ 24) (h : ∀ i, n ≤ i → i < 32 → bt x i = false) : u6 x = nI (pc x n) := by
  obtain ⟨a, ha, e⟩ := bt_nat (by omega) h
  have ha2 : a < 16777216 := Nat.lt_of_lt_of_le ha (show 2 ^ n ≤ 2 ^ 24 from Nat.pow_le_pow_right (by decide) hn)
  have e2 : fb_ct (fun i => a.testBit i) 24 = pc x n := by
    obtain ⟨q, hq⟩ := Nat.exists_eq_add_of_le hn
    have z : fb_ct (fun i => a.testBit (n + i)) q = 0 := fb_ct_zero.mpr (fun i hi => by
      rw [← b_nI a (n + i) (by omega), ← e]
      exact h _ (by omega) (by omega))
    rw [hq, fb_ct_add, z]
    exact fb_ct_cong (p := fun i => a.testBit i) (q := fun i => bt x i) (fun i hi => by rw [e, b_nI a i (by omega)])
  rw [← e2, e]
  exact u6_nI ha2
theorem k_bitCount {S : m_S} {h : m_H} {d n : Nat} {x : Int32} (hd : 1 ≤ d) (hn : n ≤ 24) (hx : ∀ i, n ≤ i → i < 32 → bt x i = false) : m_R S M_J6_bitCount_0f7a4 d [.int x] h (some (.int (nI (pc x n)))) h := by
  rw [← u6_pc hn hx]
  refine ms_iload_n dJ6_bitCount_0f7a4_0 rfl ?_
  refine ms_iload_n dJ6_bitCount_0f7a4_1 rfl ?_
  refine ms_iconst (v := nI 1) dJ6_bitCount_0f7a4_2 (by decide) ?_
  refine ms_iushr dJ6_bitCount_0f7a4_3 ?_
  refine ms_ldcw dJ6_bitCount_0f7a4_4 lJ6_265 ?_
  refine ms_iand dJ6_bitCount_0f7a4_7 ?_
  refine ms_isub dJ6_bitCount_0f7a4_8 ?_
  refine ms_istore_n dJ6_bitCount_0f7a4_9 (Nat.le_of_ble_eq_true rfl) ?_
  refine ms_iload_n dJ6_bitCount_0f7a4_10 rfl ?_
  refine ms_ldcw dJ6_bitCount_0f7a4_11 lJ6_266 ?_
  refine ms_iand dJ6_bitCount_0f7a4_14 ?_
  refine ms_iload_n dJ6_bitCount_0f7a4_15 rfl ?_
  refine ms_iconst (v := nI 2) dJ6_bitCount_0f7a4_16 (by decide) ?_
  refine ms_iushr dJ6_bitCount_0f7a4_17 ?_
  refine ms_ldcw dJ6_bitCount_0f7a4_18 lJ6_266 ?_
  refine ms_iand dJ6_bitCount_0f7a4_21 ?_
  refine ms_iadd dJ6_bitCount_0f7a4_22 ?_
  refine ms_istore_n dJ6_bitCount_0f7a4_23 (Nat.le_of_ble_eq_true rfl) ?_
  refine ms_iload_n dJ6_bitCount_0f7a4_24 rfl ?_
  refine ms_iload_n dJ6_bitCount_0f7a4_25 rfl ?_
  refine ms_iconst (v := nI 4) dJ6_bitCount_0f7a4_26 (by decide) ?_
  refine ms_iushr dJ6_bitCount_0f7a4_27 ?_
  refine ms_iadd dJ6_bitCount_0f7a4_28 ?_
  refine ms_ldcw dJ6_bitCount_0f7a4_29 lJ6_267 ?_
  refine ms_iand dJ6_bitCount_0f7a4_32 ?_
  refine ms_istore_n dJ6_bitCount_0f7a4_33 (Nat.le_of_ble_eq_true rfl) ?_
  refine ms_iload_n dJ6_bitCount_0f7a4_34 rfl ?_
  refine ms_iload_n dJ6_bitCount_0f7a4_35 rfl ?_
  refine ms_bipush (v := nI 8) dJ6_bitCount_0f7a4_36 (by decide) ?_
  refine ms_iushr dJ6_bitCount_0f7a4_38 ?_
  refine ms_iadd dJ6_bitCount_0f7a4_39 ?_
  refine ms_istore_n dJ6_bitCount_0f7a4_40 (Nat.le_of_ble_eq_true rfl) ?_
  refine ms_iload_n dJ6_bitCount_0f7a4_41 rfl ?_
  refine ms_iload_n dJ6_bitCount_0f7a4_42 rfl ?_
  refine ms_bipush (v := nI 16) dJ6_bitCount_0f7a4_43 (by decide) ?_
  refine ms_iushr dJ6_bitCount_0f7a4_45 ?_
  refine ms_iadd dJ6_bitCount_0f7a4_46 ?_
  refine ms_istore_n dJ6_bitCount_0f7a4_47 (Nat.le_of_ble_eq_true rfl) ?_
  refine ms_iload_n dJ6_bitCount_0f7a4_48 rfl ?_
  refine ms_bipush (v := nI 63) dJ6_bitCount_0f7a4_49 (by decide) ?_
  refine ms_iand dJ6_bitCount_0f7a4_51 ?_
  refine ms_iret dJ6_bitCount_0f7a4_52 rfl rfl ⟨?_, ?_⟩
  · rfl
  · rfl
theorem k_needs {S : m_S} {I : m_I} {lg : Int64} {d m pn s : Nat} {x : Int32} (hd : 3 ≤ d) (hM : Md I m) (hs : s < m) (hP : Pn I pn) (h1 : nI 0 ≤ x) (h2 : x ≤ nI 1 <<< (I 65 4 &&& 31) - nI 1) (hx : ∀ i, pn ≤ i → i < 32 → bt x i = false) : m_R S M_X10_needs d [.ref 0, .int (nI s), .int x] (hh I lg) (some (.int (nI (pc x pn)))) (hh (m_up2 I (scI s) 4 x) lg) := by
  have hM2 := hM.2
  have hP2 := hP.2
  refine ms_aload_n dX10_needs_0 rfl ?_
  refine ms_iload_n dX10_needs_1 rfl ?_
  refine qRV1 dX10_needs_2 kX10_57 (by show _ < 178; first | decide | exact lt_sc (by omega) | exact lt_dy (by omega)) (by show (sh0 _).1 = _; first | rfl | rw [sh_sc (by omega)] | rw [sh_dy (by omega)]) (d := d - 1) (by show d - 1 + 1 ≤ d; omega) rfl (Nat.le_of_ble_eq_true rfl) (Nat.le_of_ble_eq_true rfl) (k_checkScene (by omega) hM rfl hs) rfl ?_
  refine ms_iload_n dX10_needs_5 rfl ?_
  refine ms_iconst (v := nI 0) dX10_needs_6 (by decide) ?_
  refine ms_iconst (v := nI 1) dX10_needs_7 (by decide) ?_
  refine ms_aload_n dX10_needs_8 rfl ?_
  refine q_getr dX10_needs_9 fX10_19 kd_10_1 (by first | decide | exact lt_sc (by omega) | exact lt_dy (by omega) | exact lt_rw (by omega) | exact lt_wa (by omega) | exact lt_le (by omega)) (by first | rfl | rw [sh_sc (by omega)] | rw [sh_dy (by omega)]) (by first | rfl | exact rf_wa (by omega) | exact rf_le (by omega) | exact rf_rw (by omega)) ?_
  refine q_geti dX10_needs_12 fX10_120 (by rw [kd_2_4]; decide) (by first | decide | exact lt_sc (by omega) | exact lt_dy (by omega) | exact lt_rw (by omega) | exact lt_wa (by omega) | exact lt_le (by omega)) (by first | rfl | rw [sh_sc (by omega)] | rw [sh_dy (by omega)]) (by first | assumption | ((repeat ((with_reducible apply m_up2_tr); · first | omega | (intro z; (try unfold scI at z); (try unfold dyI at z); (try unfold rwI at z); (try unfold waI at z); (try unfold leI at z); omega))); first | assumption | exact m_up2_eq | rfl)) ?_
  refine ms_ishl dX10_needs_15 ?_
  refine ms_iconst (v := nI 1) dX10_needs_16 (by decide) ?_
  refine ms_isub dX10_needs_17 ?_
  refine qRS3 dX10_needs_18 kX10_64 (d := d - 1) (by show d - 1 + 1 ≤ d; omega) rfl rfl rfl (Nat.le_of_ble_eq_true rfl) (Nat.le_of_ble_eq_true rfl) (k_checkRange h1 h2) rfl ?_
  refine ms_aload_n dX10_needs_21 rfl ?_
  refine q_getr dX10_needs_22 fX10_10 kd_10_0 (by first | decide | exact lt_sc (by omega) | exact lt_dy (by omega) | exact lt_rw (by omega) | exact lt_wa (by omega) | exact lt_le (by omega)) (by first | rfl | rw [sh_sc (by omega)] | rw [sh_dy (by omega)]) (by first | rfl | exact rf_wa (by omega) | exact rf_le (by omega) | exact rf_rw (by omega)) ?_
  refine q_getr dX10_needs_25 fX10_96 kd_9_0 (by first | decide | exact lt_sc (by omega) | exact lt_dy (by omega) | exact lt_rw (by omega) | exact lt_wa (by omega) | exact lt_le (by omega)) (by first | rfl | rw [sh_sc (by omega)] | rw [sh_dy (by omega)]) (by first | rfl | exact rf_wa (by omega) | exact rf_le (by omega) | exact rf_rw (by omega)) ?_
  refine ms_iload_n dX10_needs_28 rfl ?_
  refine q_aald dX10_needs_29 (by first | exact Or.inl ⟨rfl, by omega, rfl⟩ | exact Or.inr ⟨rfl, by omega, rfl⟩) ?_
  refine ms_iload_n dX10_needs_30 rfl ?_
  refine q_puti dX10_needs_31 fX10_123 pX10_8_4 kd_8_4 (by first | decide | exact lt_sc (by omega) | exact lt_dy (by omega) | exact lt_rw (by omega) | exact lt_wa (by omega) | exact lt_le (by omega)) (by first | rfl | rw [sh_sc (by omega)] | rw [sh_dy (by omega)]) ?_
  refine ms_iload_n dX10_needs_34 rfl ?_
  refine qRS1 dX10_needs_35 kX10_126 (d := d - 1) (by show d - 1 + 1 ≤ d; omega) rfl (Nat.le_of_ble_eq_true rfl) (Nat.le_of_ble_eq_true rfl) (k_bitCount (by omega) (by omega) hx) rfl ?_
  refine ms_iret dX10_needs_38 rfl rfl ⟨?_, ?_⟩
  · rfl
  · rfl
theorem k_needsT1 {S : m_S} {I : m_I} {lg : Int64} {d m : Nat} {x y : Int32} (hd : 8 ≤ d) (hM : Md I m) (hx : ∀ j, j < m → x ≠ nI j) : m_T S M_X10_needs d [.ref 0, .int x, .int y] (hh I lg) "java/lang/IndexOutOfBoundsException" := by
  refine ms_aload_n dX10_needs_0 rfl ?_
  refine ms_iload_n dX10_needs_1 rfl ?_
  exact qTV1 dX10_needs_2 kX10_57 (by show _ < 178; first | decide | exact lt_sc (by omega) | exact lt_dy (by omega)) (by show (sh0 _).1 = _; first | rfl | rw [sh_sc (by omega)] | rw [sh_dy (by omega)]) (d := d - 1) (by show d - 1 + 1 ≤ d; omega) rfl (Nat.le_of_ble_eq_true rfl) (Nat.le_of_ble_eq_true rfl) (k_checkSceneT (by omega) hM hx) (by decide) (by decide) (Or.inl ⟨rfl, rfl, rfl⟩)
theorem k_needsT2 {S : m_S} {I : m_I} {lg : Int64} {d m s : Nat} {x : Int32} (hd : 8 ≤ d) (hM : Md I m) (hs : s < m) (h : ¬ (nI 0 ≤ x ∧ x ≤ nI 1 <<< (I 65 4 &&& 31) - nI 1)) : m_T S M_X10_needs d [.ref 0, .int (nI s), .int x] (hh I lg) "java/lang/IllegalArgumentException" := by
  refine ms_aload_n dX10_needs_0 rfl ?_
  refine ms_iload_n dX10_needs_1 rfl ?_
  refine qRV1 dX10_needs_2 kX10_57 (by show _ < 178; first | decide | exact lt_sc (by omega) | exact lt_dy (by omega)) (by show (sh0 _).1 = _; first | rfl | rw [sh_sc (by omega)] | rw [sh_dy (by omega)]) (d := d - 1) (by show d - 1 + 1 ≤ d; omega) rfl (Nat.le_of_ble_eq_true rfl) (Nat.le_of_ble_eq_true rfl) (k_checkScene (by omega) hM rfl hs) rfl ?_
  refine ms_iload_n dX10_needs_5 rfl ?_
  refine ms_iconst (v := nI 0) dX10_needs_6 (by decide) ?_
  refine ms_iconst (v := nI 1) dX10_needs_7 (by decide) ?_
  refine ms_aload_n dX10_needs_8 rfl ?_
  refine q_getr dX10_needs_9 fX10_19 kd_10_1 (by first | decide | exact lt_sc (by omega) | exact lt_dy (by omega) | exact lt_rw (by omega) | exact lt_wa (by omega) | exact lt_le (by omega)) (by first | rfl | rw [sh_sc (by omega)] | rw [sh_dy (by omega)]) (by first | rfl | exact rf_wa (by omega) | exact rf_le (by omega) | exact rf_rw (by omega)) ?_
  refine q_geti dX10_needs_12 fX10_120 (by rw [kd_2_4]; decide) (by first | decide | exact lt_sc (by omega) | exact lt_dy (by omega) | exact lt_rw (by omega) | exact lt_wa (by omega) | exact lt_le (by omega)) (by first | rfl | rw [sh_sc (by omega)] | rw [sh_dy (by omega)]) (by first | assumption | ((repeat ((with_reducible apply m_up2_tr); · first | omega | (intro z; (try unfold scI at z); (try unfold dyI at z); (try unfold rwI at z); (try unfold waI at z); (try unfold leI at z); omega))); first | assumption | exact m_up2_eq | rfl)) ?_
  refine ms_ishl dX10_needs_15 ?_
  refine ms_iconst (v := nI 1) dX10_needs_16 (by decide) ?_
  refine ms_isub dX10_needs_17 ?_
  exact qTS3 dX10_needs_18 kX10_64 (d := d - 1) (by show d - 1 + 1 ≤ d; omega) rfl rfl rfl (Nat.le_of_ble_eq_true rfl) (Nat.le_of_ble_eq_true rfl) (k_checkRangeT (by omega) h) (by decide) (by decide) (Or.inl ⟨rfl, rfl, rfl⟩)

