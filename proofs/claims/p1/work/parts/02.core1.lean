/-! The core. A heap as the proof sees it: a shape (which addresses hold which kind of cell) and contents, all numbers as Int. -/
abbrev s_K : Type := (Nat × List FieldType) ⊕ (FieldType × Nat)
abbrev s_S : Type := Int → Option s_K
abbrev s_M : Type := Int → Int → Int
abbrev vi (x : Int) : Value := .int (Int32.ofInt x)
abbrev vl (x : Int) : Value := .long (Int64.ofInt x)
abbrev vr (x : Int) : Value := .ref x.toNat
def s_q (x : Int) : Value := if x < 0 then .null else .ref x.toNat
def s_v (ty : FieldType) (x : Int) : Value := match ty with
  | .long => vl x
  | .object _ => s_q x
  | .array _ => s_q x
  | _ => vi x
def s_fs : List FieldType → (Nat → Int) → List Value
  | [], _ => []
  | t :: ts, m => s_v t (m 0) :: s_fs ts (fun j => m (j + 1))
theorem s_fs_get : ∀ (ts : List FieldType) (m : Nat → Int) (j : Nat) (t : FieldType), ts[j]? = some t → (s_fs ts m)[j]? = some (s_v t (m j))
  | [], m, j, t, h => by simp at h
  | u :: us, m, 0, t, h => by
    simp only [List.getElem?_cons_zero, Option.some.injEq] at h
    subst h
    rfl
  | u :: us, m, j + 1, t, h => by
    rw [List.getElem?_cons_succ] at h
    show (s_fs us (fun j => m (j + 1)))[j]? = _
    exact s_fs_get us (fun j => m (j + 1)) j t h
theorem s_fs_len : ∀ (ts : List FieldType) (m : Nat → Int), (s_fs ts m).length = ts.length
  | [], m => rfl
  | u :: us, m => by
    show (s_fs us (fun j => m (j + 1))).length + 1 = us.length + 1
    rw [s_fs_len us]
theorem s_fs_eq : ∀ (ts : List FieldType) (m m' : Nat → Int), (∀ j, j < ts.length → m j = m' j) → s_fs ts m = s_fs ts m'
  | [], m, m', h => rfl
  | u :: us, m, m', h => by
    show s_v u (m 0) :: s_fs us (fun j => m (j + 1)) = s_v u (m' 0) :: s_fs us (fun j => m' (j + 1))
    rw [h 0 (by simp), s_fs_eq us (fun j => m (j + 1)) (fun j => m' (j + 1)) (fun j hj => h (j + 1) (by simp; omega))]
theorem s_fs_set : ∀ (ts : List FieldType) (m m' : Nat → Int) (j : Nat) (t : FieldType), ts[j]? = some t → (∀ i, i ≠ j → m' i = m i) → (s_fs ts m).set j (s_v t (m' j)) = s_fs ts m'
  | [], m, m', j, t, h, hm => by simp at h
  | u :: us, m, m', 0, t, h, hm => by
    simp only [List.getElem?_cons_zero, Option.some.injEq] at h
    subst h
    show s_v u (m' 0) :: s_fs us (fun j => m (j + 1)) = s_v u (m' 0) :: s_fs us (fun j => m' (j + 1))
    rw [s_fs_eq us (fun j => m (j + 1)) (fun j => m' (j + 1)) (fun j _ => (hm (j + 1) (by omega)).symm)]
  | u :: us, m, m', j + 1, t, h, hm => by
    rw [List.getElem?_cons_succ] at h
    show s_v u (m 0) :: (s_fs us (fun j => m (j + 1))).set j (s_v t (m' (j + 1))) = s_v u (m' 0) :: s_fs us (fun j => m' (j + 1))
    rw [hm 0 (by omega), s_fs_set us (fun j => m (j + 1)) (fun j => m' (j + 1)) j t h (fun i hi => hm (i + 1) (by omega))]
def s_arr (ty : FieldType) (n : Nat) (m : Nat → Int) : vp_A := match ty with
  | .long => (n, .inr (.inl (fun j => Int64.ofInt (m j))))
  | .object _ => (n, .inr (.inr (.inr (.inr (fun j => if m j < 0 then none else some (m j).toNat)))))
  | .array _ => (n, .inr (.inr (.inr (.inr (fun j => if m j < 0 then none else some (m j).toNat)))))
  | _ => (n, .inl (fun j => Int32.ofInt (m j)))
/-- what a cell holds -/
def s_at (D : va_G) (cl : List vw_C) (s : State) (a : Nat) (k : s_K) (m : Nat → Int) (H : Heap) : Prop := match k with
  | .inr y => ∃ cA : ClassId, (ArrOfT s cA y.1 ∧ va_RA s cA y.1) ∧ H[a]? = some (vp_cell cA (s_arr y.1 y.2 m))
  | .inl o => va_at D cl (a, .inr (o.1, s_fs o.2 m)) H
def s_row (M : s_M) (a : Int) : Nat → Int := fun j => M a (j : Int)
def s_R (D : va_G) (cl : List vw_C) (s : State) (sh : s_S) (M : s_M) (H : Heap) : Prop := ∀ (a : Int) (k : s_K), sh a = some k → 0 ≤ a ∧ s_at D cl s a.toNat k (s_row M a) H
theorem s_at.kept {D : va_G} {cl : List vw_C} {s : State} {a : Nat} {k : s_K} {m : Nat → Int} {H H1 : Heap} (h : s_at D cl s a k m H) (hq : H1[a]? = H[a]?) : s_at D cl s a k m H1 := by
  cases k with
  | inr y =>
    obtain ⟨cA, h1, h2⟩ := h
    exact ⟨cA, h1, by rw [hq]; exact h2⟩
  | inl o => exact va_at.kept (q := (a, .inr (o.1, s_fs o.2 m))) h hq
theorem s_at.moved {D : va_G} {cl : List vw_C} {u U : State} {a : Nat} {k : s_K} {m : Nat → Int} {H : Heap} (hvm : u.vm.Alike U.vm) (h : s_at D cl u a k m H) : s_at D cl U a k m H := by
  cases k with
  | inr y =>
    obtain ⟨cA, h1, h2⟩ := h
    exact ⟨cA, ⟨arrOfT_moved hvm h1.1, h1.2.moved hvm⟩, h2⟩
  | inl o => exact h
theorem s_at.lt {D : va_G} {cl : List vw_C} {s : State} {a : Nat} {k : s_K} {m : Nat → Int} {H : Heap} (h : s_at D cl s a k m H) : a < H.size := by
  cases k with
  | inr y =>
    obtain ⟨cA, -, h2⟩ := h
    exact (Array.getElem?_eq_some_iff.mp h2).1
  | inl o => exact va_at.lt (q := (a, .inr (o.1, s_fs o.2 m))) h
theorem s_R.moved {D : va_G} {cl : List vw_C} {u U : State} {sh : s_S} {M : s_M} {H : Heap} (hvm : u.vm.Alike U.vm) (h : s_R D cl u sh M H) : s_R D cl U sh M H := fun a k hk => ⟨(h a k hk).1, (h a k hk).2.moved hvm⟩
theorem s_toNat_ne {a b : Int} (ha : 0 ≤ a) (hb : 0 ≤ b) (h : b ≠ a) : b.toNat ≠ a.toNat := by omega
/-- one cell has been written -/
theorem s_R.put {D : va_G} {cl : List vw_C} {s : State} {sh : s_S} {M M' : s_M} {a : Int} {k : s_K} {H H1 : Heap} (h : s_R D cl s sh M H) (hk : sh a = some k) (hx : s_at D cl s a.toNat k (s_row M' a) H1) (hM : ∀ b, b ≠ a → M' b = M b) (oq : ∀ q : Nat, q ≠ a.toNat → H1[q]? = H[q]?) : s_R D cl s sh M' H1 := by
  intro b kb hb
  obtain ⟨h0, h1⟩ := h b kb hb
  by_cases e : b = a
  · subst e
    cases hk.symm.trans hb
    exact ⟨h0, hx⟩
  · refine ⟨h0, ?_⟩
    have e2 : s_row M' b = s_row M b := by
      funext j
      show M' b j = M b j
      rw [hM b e]
    rw [e2]
    exact h1.kept (oq _ (s_toNat_ne (h a k hk).1 h0 e))
/-- the shape with one more cell -/
def s_up (sh : s_S) (a : Int) (k : s_K) : s_S := fun b => if b = a then some k else sh b
theorem s_up_s {sh : s_S} {a : Int} {k : s_K} : s_up sh a k a = some k := if_pos rfl
theorem s_up_n {sh : s_S} {a b : Int} {k : s_K} (h : b ≠ a) : s_up sh a k b = sh b := if_neg h
/-- the contents with a new cell's -/
def m_new (M : s_M) (a : Int) (f : Int → Int) : s_M := fun b => if b = a then f else M b
theorem m_new_s {M : s_M} {a : Int} {f : Int → Int} : m_new M a f a = f := if_pos rfl
theorem m_new_n {M : s_M} {a b : Int} {f : Int → Int} (h : b ≠ a) : m_new M a f b = M b := if_neg h
/-- one number has been written -/
def m_s (M : s_M) (a j x : Int) : s_M := fun b i => if b = a ∧ i = j then x else M b i
theorem m_s_s {M : s_M} {a j x : Int} : m_s M a j x a j = x := if_pos ⟨rfl, rfl⟩
theorem m_s_n {M : s_M} {a j x b i : Int} (h : ¬ (b = a ∧ i = j)) : m_s M a j x b i = M b i := if_neg h
theorem m_s_a {M : s_M} {a j x b : Int} (h : b ≠ a) : m_s M a j x b = M b := by
  funext i
  exact if_neg fun q => h q.1
theorem s_R.new {D : va_G} {cl : List vw_C} {s : State} {sh : s_S} {M : s_M} {a : Int} {k : s_K} {f : Int → Int} {H H1 : Heap} (h : s_R D cl s sh M H) (ha : (H.size : Int) = a) (hx : s_at D cl s a.toNat k (fun j => f (j : Int)) H1) (oq : ∀ q : Nat, q < H.size → H1[q]? = H[q]?) : s_R D cl s (s_up sh a k) (m_new M a f) H1 := by
  intro b kb hb
  by_cases e : b = a
  · subst e
    rw [s_up_s] at hb
    cases hb
    refine ⟨by omega, ?_⟩
    have e2 : s_row (m_new M b f) b = (fun j : Nat => f (j : Int)) := by
      funext j
      show m_new M b f b j = f j
      rw [m_new_s]
    rw [e2]
    exact hx
  · rw [s_up_n e] at hb
    obtain ⟨h0, h1⟩ := h b kb hb
    refine ⟨h0, ?_⟩
    have e2 : s_row (m_new M a f) b = s_row M b := by
      funext j
      show m_new M a f b j = M b j
      rw [m_new_n e]
    rw [e2]
    exact h1.kept (oq _ h1.lt)
/-! numbers -/
theorem n_add (x y : Int) : Int32.ofInt x + Int32.ofInt y = Int32.ofInt (x + y) := by
  apply Int32.toInt.inj
  rw [Int32.toInt_add, Int32.toInt_ofInt, Int32.toInt_ofInt, Int32.toInt_ofInt]
  show (x.bmod 4294967296 + y.bmod 4294967296).bmod 4294967296 = (x + y).bmod 4294967296
  rw [Int.bmod_add_bmod, Int.add_bmod_bmod]
theorem n_sub (x y : Int) : Int32.ofInt x - Int32.ofInt y = Int32.ofInt (x - y) := by
  apply Int32.toInt.inj
  rw [Int32.toInt_sub, Int32.toInt_ofInt, Int32.toInt_ofInt, Int32.toInt_ofInt]
  show (x.bmod 4294967296 - y.bmod 4294967296).bmod 4294967296 = (x - y).bmod 4294967296
  rw [Int.bmod_sub_bmod, Int.sub_bmod_bmod]
theorem n_mul (x y : Int) : Int32.ofInt x * Int32.ofInt y = Int32.ofInt (x * y) := by
  apply Int32.toInt.inj
  rw [Int32.toInt_mul, Int32.toInt_ofInt, Int32.toInt_ofInt, Int32.toInt_ofInt]
  show (x.bmod 4294967296 * y.bmod 4294967296).bmod 4294967296 = (x * y).bmod 4294967296
  rw [Int.bmod_mul_bmod, Int.mul_bmod_bmod]
theorem n_to {x : Int} (h : -2147483648 ≤ x ∧ x < 2147483648) : (Int32.ofInt x).toInt = x := Int32.toInt_ofInt_of_le (by omega) (by omega)
theorem n_lt {x y : Int} (hx : -2147483648 ≤ x ∧ x < 2147483648) (hy : -2147483648 ≤ y ∧ y < 2147483648) : Int32.ofInt x < Int32.ofInt y ↔ x < y := by
  rw [Int32.lt_iff_toInt_lt, n_to hx, n_to hy]
theorem n_le {x y : Int} (hx : -2147483648 ≤ x ∧ x < 2147483648) (hy : -2147483648 ≤ y ∧ y < 2147483648) : Int32.ofInt x ≤ Int32.ofInt y ↔ x ≤ y := by
  rw [Int32.le_iff_toInt_le, n_to hx, n_to hy]
theorem n_eq {x y : Int} (hx : -2147483648 ≤ x ∧ x < 2147483648) (hy : -2147483648 ≤ y ∧ y < 2147483648) : Int32.ofInt x = Int32.ofInt y ↔ x = y := by
  rw [← Int32.toInt_inj, n_to hx, n_to hy]
theorem n_0 : (0 : Int32) = Int32.ofInt 0 := by decide
theorem n_clamp {x : Int} (h : 0 ≤ x ∧ x < 2147483648) : (Int32.ofInt x).toNatClampNeg = x.toNat := by
  show (Int32.ofInt x).toInt.toNat = x.toNat
  rw [n_to (by omega)]
theorem n_in {x : Int} {n : Nat} (h : 0 ≤ x) (h2 : x < n) (hn : n < 2147483648) : vp_in (Int32.ofInt x) n := by
  intro q
  rcases q with q | q
  · rw [n_0, n_lt (by omega) (by omega)] at q
    omega
  · rw [n_clamp (by omega)] at q
    omega
theorem l_to {x : Int} (h : -9223372036854775808 ≤ x ∧ x < 9223372036854775808) : (Int64.ofInt x).toInt = x := Int64.toInt_ofInt_of_le (by omega) (by omega)
theorem l_eq {x y : Int} (hx : -9223372036854775808 ≤ x ∧ x < 9223372036854775808) (hy : -9223372036854775808 ≤ y ∧ y < 9223372036854775808) : Int64.ofInt x = Int64.ofInt y ↔ x = y := by
  rw [← Int64.toInt_inj, l_to hx, l_to hy]
theorem l_lt {x y : Int} (hx : -9223372036854775808 ≤ x ∧ x < 9223372036854775808) (hy : -9223372036854775808 ≤ y ∧ y < 9223372036854775808) : Int64.ofInt x < Int64.ofInt y ↔ x < y := by
  rw [Int64.lt_iff_toInt_lt, l_to hx, l_to hy]
theorem l_add (x y : Int) : Int64.ofInt x + Int64.ofInt y = Int64.ofInt (x + y) := by
  apply Int64.toInt.inj
  rw [Int64.toInt_add, Int64.toInt_ofInt, Int64.toInt_ofInt, Int64.toInt_ofInt]
  show (x.bmod 18446744073709551616 + y.bmod 18446744073709551616).bmod 18446744073709551616 = (x + y).bmod 18446744073709551616
  rw [Int.bmod_add_bmod, Int.add_bmod_bmod]
theorem l_sub (x y : Int) : Int64.ofInt x - Int64.ofInt y = Int64.ofInt (x - y) := by
  apply Int64.toInt.inj
  rw [Int64.toInt_sub, Int64.toInt_ofInt, Int64.toInt_ofInt, Int64.toInt_ofInt]
  show (x.bmod 18446744073709551616 - y.bmod 18446744073709551616).bmod 18446744073709551616 = (x - y).bmod 18446744073709551616
  rw [Int.bmod_sub_bmod, Int.sub_bmod_bmod]
theorem n_wide {x : Int} (h : -2147483648 ≤ x ∧ x < 2147483648) : (Int32.ofInt x).toInt64 = Int64.ofInt x := by
  apply Int64.toInt.inj
  rw [Int32.toInt_toInt64, n_to h, l_to (by omega)]
theorem l_narrow (x : Int) : (Int64.ofInt x).toInt32 = Int32.ofInt x := Int64.toInt32_ofInt
/-- the comparison of two longs, as a number -/
def s_cmp (x y : Int) : Int := if y < x then 1 else if x = y then 0 else -1
theorem l_cmp {x y : Int} (hx : -9223372036854775808 ≤ x ∧ x < 9223372036854775808) (hy : -9223372036854775808 ≤ y ∧ y < 9223372036854775808) : lg_cmp (Int64.ofInt x) (Int64.ofInt y) = Int32.ofInt (s_cmp x y) := by
  unfold lg_cmp s_cmp
  by_cases h1 : y < x
  · rw [if_pos h1, if_pos (show Int64.ofInt x > Int64.ofInt y from (l_lt hy hx).mpr h1)]
    decide
  · rw [if_neg h1, if_neg (show ¬ Int64.ofInt x > Int64.ofInt y from fun q => h1 ((l_lt hy hx).mp q))]
    by_cases h2 : x = y
    · rw [if_pos h2, if_pos ((l_eq hx hy).mpr h2)]
      decide
    · rw [if_neg h2, if_neg (fun q => h2 ((l_eq hx hy).mp q))]
      decide
