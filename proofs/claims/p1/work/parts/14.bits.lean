/-! Bytes of a long. The rows wb_, u_tn, g_or, g_or' are those of kit/laws/BITS.to-paste. -/
theorem wb_tb (n : Nat) : (lN n).toBitVec = BitVec.ofNat 64 n := rfl
theorem wb_inj {a b : Int64} (h : a.toBitVec = b.toBitVec) : a = b := Int64.toBitVec_inj.mp h
theorem wb_tn {n : Nat} (h : n < 2 ^ 64) : (lN n).toBitVec.toNat = n := by rw [wb_tb, BitVec.toNat_ofNat, Nat.mod_eq_of_lt h]
theorem wb_of (x : Int64) : ∃ n, n < 2 ^ 64 ∧ x = lN n := ⟨x.toBitVec.toNat, x.toBitVec.isLt, wb_inj (by rw [wb_tb]; simp)⟩
theorem wb_of32 (x : Int32) : ∃ n, n < 2 ^ 32 ∧ x = nI n := ⟨x.toBitVec.toNat, x.toBitVec.isLt, Int32.toBitVec_inj.mp (by show _ = BitVec.ofNat 32 _; simp)⟩
theorem wb_c : ∀ k, k < 64 → ((nI k).toInt64 &&& 63) = lN k := by decide +kernel
theorem wb_cu : ∀ k, k < 64 → ((nI k).toInt64.toUInt64 &&& Int64.toUInt64 63) = UInt64.ofNat k := by decide +kernel
theorem wb_sm : ∀ k, k < 64 → (BitVec.ofNat 64 k).smod 64 = BitVec.ofNat 64 k := by decide +kernel
theorem wb_pw {a b : Nat} (h : a ≤ b) : 2 ^ b = 2 ^ a * 2 ^ (b - a) := by rw [← Nat.pow_add]; congr 1; omega
theorem wb_lt2 {a b : Nat} (h : a < b) : 2 ^ a < 2 ^ b := Nat.pow_lt_pow_right (by decide) h
theorem wb_mod (n : Nat) : lN n = lN (n % 2 ^ 64) := wb_inj (by rw [wb_tb, wb_tb]; apply BitVec.eq_of_toNat_eq; rw [BitVec.toNat_ofNat, BitVec.toNat_ofNat, Nat.mod_mod])
theorem wb_shr {n k : Nat} (hn : n < 2 ^ 64) (hk : k < 64) : ((lN n).toUInt64 >>> ((nI k).toInt64.toUInt64 &&& Int64.toUInt64 63)).toInt64 = lN (n / 2 ^ k) := by
  rw [wb_cu k hk]
  apply wb_inj
  apply BitVec.eq_of_toNat_eq
  show ((lN n).toUInt64 >>> UInt64.ofNat k).toNat = (BitVec.ofNat 64 _).toNat
  have h1 : (UInt64.ofNat k).toNat = k := by
    show (BitVec.ofNat 64 k).toNat = k
    rw [BitVec.toNat_ofNat, Nat.mod_eq_of_lt (by omega)]
  have h2 : (lN n).toUInt64.toNat = n := wb_tn hn
  rw [UInt64.toNat_shiftRight, h1, h2, Nat.mod_eq_of_lt hk, Nat.shiftRight_eq_div_pow, BitVec.toNat_ofNat, Nat.mod_eq_of_lt (Nat.lt_of_le_of_lt (Nat.div_le_self _ _) hn)]
theorem wb_shl (n : Nat) {k : Nat} (hk : k < 64) : lN n <<< ((nI k).toInt64 &&& 63) = lN (n * 2 ^ k) := by
  rw [wb_c k hk]
  apply wb_inj
  rw [Int64.toBitVec_shiftLeft, wb_tb, wb_tb, wb_tb, wb_sm k hk]
  apply BitVec.eq_of_toNat_eq
  rw [BitVec.shiftLeft_eq', BitVec.toNat_shiftLeft, BitVec.toNat_ofNat, BitVec.toNat_ofNat, BitVec.toNat_ofNat, Nat.mod_eq_of_lt (show k < 2 ^ 64 by omega), Nat.shiftLeft_eq, Nat.mul_mod, Nat.mod_mod, ← Nat.mul_mod]
theorem wb_and {a b : Nat} (ha : a < 2 ^ 64) (hb : b < 2 ^ 64) : lN a &&& lN b = lN (a &&& b) := by
  apply wb_inj
  rw [Int64.toBitVec_and, wb_tb, wb_tb, wb_tb]
  apply BitVec.eq_of_toNat_eq
  rw [BitVec.toNat_and, BitVec.toNat_ofNat, BitVec.toNat_ofNat, BitVec.toNat_ofNat, Nat.mod_eq_of_lt ha, Nat.mod_eq_of_lt hb, Nat.mod_eq_of_lt (Nat.and_lt_two_pow _ hb)]
theorem wb_or {a b : Nat} (ha : a < 2 ^ 64) (hb : b < 2 ^ 64) : lN a ||| lN b = lN (a ||| b) := by
  apply wb_inj
  rw [Int64.toBitVec_or, wb_tb, wb_tb, wb_tb]
  apply BitVec.eq_of_toNat_eq
  rw [BitVec.toNat_or, BitVec.toNat_ofNat, BitVec.toNat_ofNat, BitVec.toNat_ofNat, Nat.mod_eq_of_lt ha, Nat.mod_eq_of_lt hb, Nat.mod_eq_of_lt (Nat.or_lt_two_pow ha hb)]
theorem wb_mask {n k : Nat} (hn : n < 2 ^ 64) (hk : k < 64) : lN n &&& lN (2 ^ k - 1) = lN (n % 2 ^ k) := by
  rw [wb_and hn (by have := wb_lt2 hk; omega), Nat.and_two_pow_sub_one_eq_mod]
theorem u_tn {n : Nat} (h : n < 2 ^ 64) : (UInt64.ofNat n).toNat = n := Nat.mod_eq_of_lt h
theorem g_or {k p a b : Nat} (hp : 2 ^ k = p) (ha : a < p) (h : b * p + a < 2 ^ 64) : lN (b * p) ||| lN a = lN (b * p + a) := by
  subst hp
  have h1 : b * 2 ^ k ||| a = b * 2 ^ k + a := by rw [← Nat.shiftLeft_eq, Nat.shiftLeft_add_eq_or_of_lt ha]
  have h3 : UInt64.ofNat (b * 2 ^ k) ||| UInt64.ofNat a = UInt64.ofNat (b * 2 ^ k + a) := UInt64.toNat_inj.mp (by rw [UInt64.toNat_or, u_tn (by omega), u_tn (by omega), u_tn h, h1])
  have h2 := congrArg UInt64.toInt64 h3
  exact h2
theorem g_or' {k p a b : Nat} (hp : 2 ^ k = p) (ha : a < p) (h : a + b * p < 2 ^ 64) : lN a ||| lN (b * p) = lN (a + b * p) := by
  rw [Int64.or_comm, g_or hp ha (by omega), Nat.add_comm]
def pow8 (i : Int) : Int := 2 ^ (8 * i).toNat
theorem pow8_n (k : Nat) : pow8 (k : Int) = ((2 ^ (8 * k) : Nat) : Int) := by
  unfold pow8
  rw [show (8 * (k : Int)).toNat = 8 * k by omega]
  push_cast
  rfl
theorem pow8_pos (i : Int) : 0 < pow8 i := by
  unfold pow8
  exact Int.pow_pos (by decide)
theorem pow8_succ {i : Int} (h : 0 ≤ i) : pow8 (i + 1) = 256 * pow8 i := by
  unfold pow8
  rw [show (8 * (i + 1)).toNat = (8 * i).toNat + 8 by omega, Int.pow_add]
  show _ * (256 : Int) = _
  exact Int.mul_comm _ _
theorem by_eq (x i : Int) : by_ x i = x / pow8 i % 256 := rfl
theorem l_ushr {x i : Int} (hx : 0 ≤ x ∧ x < 18446744073709551616) (hi : 0 ≤ i ∧ i < 8) : ((Int64.ofInt x).toUInt64 >>> ((Int32.ofInt (8 * i)).toInt64.toUInt64 &&& Int64.toUInt64 63)).toInt64 = Int64.ofInt (x / pow8 i) := by
  obtain ⟨n, rfl⟩ := Int.eq_ofNat_of_zero_le hx.1
  obtain ⟨k, rfl⟩ := Int.eq_ofNat_of_zero_le hi.1
  have e : (8 * (k : Int)) = ((8 * k : Nat) : Int) := by omega
  rw [e, ← n_lN, ← n_nI, wb_shr (by omega) (by omega), n_lN, pow8_n]
  rfl
theorem l_and255 {z : Int} (hz : 0 ≤ z ∧ z < 18446744073709551616) : Int64.ofInt z &&& Int64.ofInt 255 = Int64.ofInt (z % 256) := by
  obtain ⟨n, rfl⟩ := Int.eq_ofNat_of_zero_le hz.1
  have h := wb_mask (n := n) (k := 8) (by omega) (by decide)
  rw [n_lN, n_lN, n_lN] at h
  exact h
theorem l_by {x i : Int} (hx : 0 ≤ x ∧ x < 18446744073709551616) : Int64.ofInt (x / pow8 i) &&& Int64.ofInt 255 = Int64.ofInt (by_ x i) := by
  have hp := pow8_pos i
  rw [l_and255, by_eq]
  refine ⟨Int.ediv_nonneg hx.1 (by omega), ?_⟩
  have h1 := Int.ediv_le_self (pow8 i) hx.1
  omega
theorem l_shl {c i : Int} (hc : 0 ≤ c) (hi : 0 ≤ i ∧ i < 8) : Int64.ofInt c <<< ((Int32.ofInt (8 * i)).toInt64 &&& 63) = Int64.ofInt (c * pow8 i) := by
  obtain ⟨n, rfl⟩ := Int.eq_ofNat_of_zero_le hc
  obtain ⟨k, rfl⟩ := Int.eq_ofNat_of_zero_le hi.1
  have e : (8 * (k : Int)) = ((8 * k : Nat) : Int) := by omega
  rw [e, ← n_lN, ← n_nI, wb_shl n (by omega), n_lN, pow8_n]
  rfl
theorem pow8_le {i : Int} (hi : 0 ≤ i ∧ i < 8) : pow8 i ≤ 72057594037927936 := by
  rcases (show i = 0 ∨ i = 1 ∨ i = 2 ∨ i = 3 ∨ i = 4 ∨ i = 5 ∨ i = 6 ∨ i = 7 by omega) with rfl | rfl | rfl | rfl | rfl | rfl | rfl | rfl <;> decide
theorem l_or {w c i : Int} (hw : 0 ≤ w ∧ w < pow8 i) (hc : 0 ≤ c ∧ c < 256) (hi : 0 ≤ i ∧ i < 8) : Int64.ofInt w ||| Int64.ofInt (c * pow8 i) = Int64.ofInt (w + c * pow8 i) := by
  have hb : w + c * pow8 i < 18446744073709551616 := by
    have h1 := pow8_le hi
    have h2 : c * pow8 i ≤ 255 * pow8 i := Int.mul_le_mul_of_nonneg_right (by omega) (by have := pow8_pos i; omega)
    omega
  obtain ⟨a, rfl⟩ := Int.eq_ofNat_of_zero_le hw.1
  obtain ⟨n, rfl⟩ := Int.eq_ofNat_of_zero_le hc.1
  obtain ⟨k, rfl⟩ := Int.eq_ofNat_of_zero_le hi.1
  rw [pow8_n] at hw hb ⊢
  have h := g_or' (k := 8 * k) (p := 2 ^ (8 * k)) (a := a) (b := n) rfl (by omega) (by
    have h3 : ((a + n * 2 ^ (8 * k) : Nat) : Int) < 18446744073709551616 := by push_cast; push_cast at hb; exact hb
    omega)
  rw [n_lN, n_lN, n_lN] at h
  exact h
/-- >> by 8 * i, as a number -/
def s_sar (x y : Int) : Int := (Int64.ofInt x >>> ((Int32.ofInt y).toInt64 &&& 63)).toInt
theorem l_sar (x y : Int) : Int64.ofInt x >>> ((Int32.ofInt y).toInt64 &&& 63) = Int64.ofInt (s_sar x y) := (Int64.ofInt_toInt _).symm
theorem l_sarby {x i : Int} (hx : 0 ≤ x ∧ x < 18446744073709551616) (hi : 0 ≤ i ∧ i < 8) : Int64.ofInt (s_sar x (8 * i)) &&& Int64.ofInt 255 = Int64.ofInt (by_ x i) := by
  rw [← l_by hx, ← l_ushr hx hi, ← l_sar]
  apply wb_inj
  rw [Int64.toBitVec_and, Int64.toBitVec_and]
  obtain ⟨k, rfl⟩ := Int.eq_ofNat_of_zero_le hi.1
  have e : (8 * (k : Int)) = ((8 * k : Nat) : Int) := by omega
  rw [e, ← n_nI, wb_c (8 * k) (by omega), wb_cu (8 * k) (by omega)]
  apply BitVec.eq_of_getLsbD_eq
  intro j hj
  rw [BitVec.getLsbD_and, BitVec.getLsbD_and]
  by_cases h8 : j < 8
  · congr 1
    rw [Int64.toBitVec_shiftRight, wb_tb, wb_sm (8 * k) (by omega)]
    show ((Int64.ofInt x).toBitVec.sshiftRight (BitVec.ofNat 64 (8 * k)).toNat).getLsbD j = ((Int64.ofInt x).toUInt64 >>> UInt64.ofNat (8 * k)).toBitVec.getLsbD j
    rw [UInt64.toBitVec_shiftRight]
    show _ = ((Int64.ofInt x).toBitVec >>> (BitVec.ofNat 64 (8 * k) % 64).toNat).getLsbD j
    have e1 : (BitVec.ofNat 64 (8 * k)).toNat = 8 * k := by rw [BitVec.toNat_ofNat]; omega
    have e2 : (BitVec.ofNat 64 (8 * k) % 64).toNat = 8 * k := by
      rw [BitVec.toNat_umod, e1]
      show 8 * k % 64 = 8 * k
      omega
    rw [e1, e2, BitVec.getLsbD_sshiftRight, BitVec.getLsbD_ushiftRight, if_pos (by omega)]
    simp
    omega
  · have e3 : (Int64.ofInt 255).toBitVec.getLsbD j = false := by
      have e4 : (Int64.ofInt 255).toBitVec = 255#64 := by decide
      rw [e4]
      rw [← Bool.not_eq_true]
      intro q
      have q2 := BitVec.getLsbD_ofNat (n := 64) (x := 255) (i := j)
      rw [q2] at q
      simp only [Bool.and_eq_true, decide_eq_true_eq] at q
      have q3 := Nat.testBit_lt_two_pow (x := 255) (i := j) (Nat.lt_of_lt_of_le (by decide : 255 < 2 ^ 8) (Nat.pow_le_pow_right (by decide) (by omega)))
      rw [q3] at q
      exact absurd q.2 (by decide)
    rw [e3, Bool.and_false, Bool.and_false]
set_option maxHeartbeats 4000000 in
set_option maxRecDepth 100000 in
theorem c_byteOf (l : Launch) (D : va_G) {sh : s_S} {M : s_M} {sz x i : Int} (hx : 0 ≤ x ∧ x < 18446744073709551616) (hi : 0 ≤ i ∧ i < 8) : Sp l D y_CiteForge_byteOf prog_1_method_33_code 3 (some .char) 1 0 0 [vl x, vi i] sh M sz (pF (some (vi (by_ x i))) sh M sz) := by
  refine Sp.ofGo (own := "CiteForge") (nm := "byteOf") (by decide) rfl rfl (Nat.le_of_ble_eq_true rfl) (lv := [(0, vl x), (2, vi i)]) rfl ?_
  intro g X
  refine go_lload_n X d_CiteForge_byteOf_0 rfl rfl ?_
  refine go_bipush (v := 8) X d_CiteForge_byteOf_1 (by decide) ?_
  refine go_iload_n X d_CiteForge_byteOf_3 rfl rfl ?_
  refine go_imul X d_CiteForge_byteOf_4 ?_
  refine go_lushr (z := x / pow8 i) X d_CiteForge_byteOf_5 (l_ushr (by omega) (by omega)) ?_
  refine go_ldc2 (x := 255) X w_kl_CiteForge_238 (by decide) d_CiteForge_byteOf_6 ?_
  refine go_land (z := by_ x i) X d_CiteForge_byteOf_9 (l_by (by omega)) ?_
  refine go_l2i X d_CiteForge_byteOf_10 ?_
  refine go_i2c X d_CiteForge_byteOf_11 (n_i2c (by have := by_r x i; omega)) ?_
  refine go_iret X d_CiteForge_byteOf_12 rfl ?_ (by omega) (by omega) ?_
  · exact n_nc (by have := by_r x i; omega)
  · exact ⟨rfl, rfl, rfl, rfl⟩
