/-! Numbers: chars, booleans, bytes of a long. -/
theorem s_qref {x b : Int} (h : x = b) (h0 : 0 ≤ b) : s_q x = vr b := by
  subst h
  exact if_neg (by omega)
theorem s_qnull {x : Int} (h : x < 0) : s_q x = .null := if_pos h
theorem n_nI (k : Nat) : nI k = Int32.ofInt (k : Int) := Int32.ofInt_eq_ofNat.symm
theorem n_lN (k : Nat) : lN k = Int64.ofInt (k : Int) := Int64.ofInt_eq_ofNat.symm
theorem n_nc {x : Int} (h : 0 ≤ x ∧ x < 65536) : narrow .char (vi x) = vi x := by
  obtain ⟨k, rfl⟩ := Int.eq_ofNat_of_zero_le h.1
  have h1 := (pk_charN (q := k) (by omega)).1
  rw [n_nI] at h1
  exact h1
theorem n_fc {x : Int} (h : 0 ≤ x ∧ x < 65536) : fits .char (vi x) = true := by
  obtain ⟨k, rfl⟩ := Int.eq_ofNat_of_zero_le h.1
  have h1 := (pk_charN (q := k) (by omega)).2
  rw [n_nI] at h1
  exact h1
theorem n_i2c {x : Int} (h : 0 ≤ x ∧ x < 65536) : ((Int32.ofInt x).toUInt32 % 65536).toInt32 = Int32.ofInt x := by
  obtain ⟨k, rfl⟩ := Int.eq_ofNat_of_zero_le h.1
  rw [pk_char, ← n_nI]
  have e1 : (nI k).toBitVec.toNat = k := by
    show (BitVec.ofNat 32 k).toNat = k
    rw [BitVec.toNat_ofNat]
    omega
  rw [e1]
  congr 1
  omega
theorem n_nz {x : Int} (h : 0 ≤ x ∧ x ≤ 1) : narrow .boolean (vi x) = vi x := by
  rcases (show x = 0 ∨ x = 1 by omega) with rfl | rfl <;> rfl
theorem n_fz {x : Int} (h : 0 ≤ x ∧ x ≤ 1) : fits .boolean (vi x) = true := by
  rcases (show x = 0 ∨ x = 1 by omega) with rfl | rfl <;> rfl
theorem s_b_fit (b : Bool) : fits .boolean (vi (s_b b)) = true := by cases b <;> rfl
/-- the byte i of a long that stands for a number below 2^64 -/
def by_ (x : Int) (i : Int) : Int := x / (2 ^ (8 * i).toNat) % 256
theorem by_r (x i : Int) : 0 ≤ by_ x i ∧ by_ x i < 256 := by
  unfold by_
  omega
