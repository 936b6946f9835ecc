/-! Constructors: below a all is as it was; predicates that move; families that grow. -/
theorem go_kn {g : g_X} {k k' n n' : Nat} {sh : s_S} {M : s_M} {sz sz' : Int} {pc : Nat} {lv : List (Nat × Value)} {st : List Value} (hk : k = k') (hn : n = n') (hz : sz = sz') (kk : Go g k' n' sh M sz' pc lv st) : Go g k n sh M sz pc lv st := by
  subst hk
  subst hn
  subst hz
  exact kk
def up (a : Int) (sh : s_S) (M : s_M) (sh' : s_S) (M' : s_M) : Prop := ∀ z, z < a → sh' z = sh z ∧ M' z = M z
/-- the same in [lo, hi) -/
abbrev as_ (lo hi : Int) (sh : s_S) (M : s_M) (sh' : s_S) (M' : s_M) : Prop := ∀ z, lo ≤ z → z < hi → sh' z = sh z ∧ M' z = M z
section Up
variable {a b c lo hi : Int} {sh sh' sh1 : s_S} {M M' M1 : s_M}
theorem up.rf : up a sh M sh M := fun _ _ => ⟨rfl, rfl⟩
theorem up.s {k : s_K} (h : up a sh M sh' M') (hb : b < a) (q : sh b = some k) : sh' b = some k := (h b hb).1.trans q
theorem up.m {j v : Int} (h : up a sh M sh' M') (hb : b < a) (q : M b j = v) : M' b j = v := by
  rw [(h b hb).2]
  exact q
theorem up.n {j : Int} (h : up a sh M sh' M') (hb : b < a) (q : M b j < 0) : M' b j < 0 := by
  rw [(h b hb).2]
  exact q
theorem up.r {f : Int → Int} (h : up a sh M sh' M') (hb : b < a) (q : M b = f) : M' b = f := (h b hb).2.trans q
theorem up.new {k : s_K} {f : Int → Int} : up a sh M (s_up sh a k) (m_new M a f) := fun z hz => ⟨s_up_n (by omega), m_new_n (by omega)⟩
theorem up.tr (h : up a sh M sh' M') (h2 : up b sh' M' sh1 M1) (hab : a ≤ b) : up a sh M sh1 M1 := fun z hz => ⟨(h2 z (by omega)).1.trans (h z hz).1, (h2 z (by omega)).2.trans (h z hz).2⟩
theorem up.set {j v : Int} (h : up a sh M sh' M') (hb : a ≤ b) : up a sh M sh' (m_s M' b j v) := fun z hz => ⟨(h z hz).1, (m_s_a (by omega)).trans (h z hz).2⟩
theorem up.as (h : up a sh M sh' M') (hh : hi ≤ a) : as_ lo hi sh M sh' M' := fun z _ hz => h z (by omega)
theorem as_set {j v : Int} (h : b < lo ∨ hi ≤ b) : as_ lo hi sh M sh (m_s M b j v) := fun z h1 h2 => ⟨rfl, m_s_a (by omega)⟩
end Up
theorem tv.mv {sh sh' : s_S} {M M' : s_M} {a : Int} {N : Nat} {t : List Int} (h : tv sh M a N t) (hu : as_ a (a + 2) sh M sh' M') : tv sh' M' a N t := by
  obtain ⟨⟨q1, q2, q3, q4, q5, q6, q7, q8⟩, q9, q10⟩ := h
  have h0 := hu a (by omega) (by omega)
  have h1 := hu (a + 1) (by omega) (by omega)
  refine ⟨⟨by rw [h0.1]; exact q1, by rw [h1.1]; exact q2, by rw [h0.2]; exact q3, by rw [h0.2]; exact q4, by rw [h0.2]; exact q5, by rw [h1.2]; exact q6, q7, q8⟩, by rw [h0.2]; exact q9, by rw [h1.2]; exact q10⟩
theorem vv.mv {sh sh' : s_S} {M M' : s_M} {v k n : Int} {t : List Int} (h : vv sh M v k n t) (hu : as_ v (v + 3) sh M sh' M') : vv sh' M' v k n t := by
  obtain ⟨q1, q2, q3, q4, q5, q6, q7, q8⟩ := h
  have h0 := hu v (by omega) (by omega)
  exact ⟨by rw [h0.1]; exact q1, by rw [h0.2]; exact q2, q3.mv (fun z h1 h2 => hu z (by omega) (by omega)), by rw [h0.2]; exact q4, by rw [h0.2]; exact q5, q6, q7, q8⟩
theorem txs.mv {sh sh' : s_S} {M M' : s_M} {b K : Int} {X : Int → List Int} (h : txs sh M b K X) (hu : as_ b (b + 1 + 2 * K) sh M sh' M') : txs sh' M' b K X := by
  intro i h0 h1
  obtain ⟨q1, q2⟩ := h i h0 h1
  exact ⟨by rw [(hu b (by omega) (by omega)).2]; exact q1, q2.mv (fun z h1 h2 => hu z (by omega) (by omega))⟩
theorem env.mv {sh sh' : s_S} {M M' : s_M} {a k t c n : Int} {W : Int → Int} {X : Int → List Int} {s : List Int} (h : env sh M a k t c n W X s) (hu : as_ a (a + 17) sh M sh' M') : env sh' M' a k t c n W X s := by
  obtain ⟨q1, q2, q3, q4, q5, q6, q7, q8, q9, q10, q11, q12, q13, q14, q15, q16, q17⟩ := h
  have e := hu a (by omega) (by omega)
  have e1 := hu (a + 1) (by omega) (by omega)
  have e2 := hu (a + 2) (by omega) (by omega)
  exact ⟨by rw [e.1]; exact q1, by rw [e1.1]; exact q2, by rw [e2.1]; exact q3, by rw [e.2]; exact q4, by rw [e.2]; exact q5, by rw [e.2]; exact q6, by rw [e.2]; exact q7, by rw [e.2]; exact q8, by rw [e.2]; exact q9, by rw [e.2]; exact q10, q11, q12, by rw [e1.2]; exact q13, q14, q15, q16.mv (fun z h1 h2 => hu z (by omega) (by omega)), q17.mv (fun z h1 h2 => hu z (by omega) (by omega))⟩
abbrev s_L : Type := s_S → s_M → Int → Int → Prop
def loc (w : Int) (P : s_L) : Prop := ∀ (sh : s_S) (M : s_M) (sh' : s_S) (M' : s_M) (q i : Int), as_ q (q + w) sh M sh' M' → P sh M q i → P sh' M' q i
/-- K things of w cells behind the array at b that names them -/
def fam (w : Int) (P : s_L) (sh : s_S) (M : s_M) (b K : Int) : Prop := ∀ i : Int, 0 ≤ i → i < K → M b i = b + 1 + w * i ∧ P sh M (b + 1 + w * i) i
theorem fam.mv {w : Int} {P : s_L} {sh sh' : s_S} {M M' : s_M} {b K : Int} (h : fam w P sh M b K) (hw : 0 ≤ w) (hP : loc w P) (hu : as_ b (b + 1 + w * K) sh M sh' M') : fam w P sh' M' b K := by
  intro i h0 h1
  obtain ⟨q1, q2⟩ := h i h0 h1
  have e : w * (i + 1) ≤ w * K := Int.mul_le_mul_of_nonneg_left (by omega) hw
  have e2 : w * (i + 1) = w * i + w := by rw [Int.mul_add, Int.mul_one]
  have e3 : 0 ≤ w * i := Int.mul_nonneg hw h0
  exact ⟨by rw [(hu b (by omega) (by omega)).2]; exact q1, hP _ _ _ _ _ _ (fun z hz1 hz2 => hu z (by omega) (by omega)) q2⟩
theorem fam.push {w : Int} {P : s_L} {sh : s_S} {M : s_M} {b i : Int} (h : fam w P sh M b i) (hw : 0 ≤ w) (hP : loc w P) (hi : 0 ≤ i) (hx : P sh M (b + 1 + w * i) i) : fam w P sh (m_s M b i (b + 1 + w * i)) b (i + 1) := by
  intro j h0 h1
  have e0 : 0 ≤ w * j := Int.mul_nonneg hw h0
  by_cases e : j = i
  · subst e
    exact ⟨m_s_s, hP _ _ _ _ _ _ (fun z hz1 hz2 => ⟨rfl, m_s_a (by omega)⟩) hx⟩
  · obtain ⟨q1, q2⟩ := h j h0 (by omega)
    exact ⟨(m_s_n (fun q => e q.2)).trans q1, hP _ _ _ _ _ _ (fun z hz1 hz2 => ⟨rfl, m_s_a (by omega)⟩) q2⟩
def lT (X : Int → List Int) : s_L := fun sh M q i => tv sh M q 60 (X i)
theorem lT_loc {X : Int → List Int} : loc 2 (lT X) := fun _ _ _ _ _ _ hu h => tv.mv h hu
def lV (f : Int → sva) : s_L := fun sh M q i => vv sh M q (f i).1 (f i).2.1 (f i).2.2
theorem lV_loc {f : Int → sva} : loc 3 (lV f) := fun _ _ _ _ _ _ hu h => vv.mv h hu
/-- an entry's raw state -/
abbrev sen : Type := (Int × Int × Int × Int) × (Int → Int) × (Int → List Int) × List Int
def enx (sh : s_S) (M : s_M) (a : Int) (e : sen) : Prop := env sh M a e.1.1 e.1.2.1 e.1.2.2.1 e.1.2.2.2 e.2.1 e.2.2.1 e.2.2.2
theorem enx.mv {sh sh' : s_S} {M M' : s_M} {a : Int} {e : sen} (h : enx sh M a e) (hu : as_ a (a + 17) sh M sh' M') : enx sh' M' a e := env.mv h hu
def lE (E : Int → sen) : s_L := fun sh M q i => enx sh M q (E i)
theorem lE_loc {E : Int → sen} : loc 17 (lE E) := fun _ _ _ _ _ _ hu h => env.mv h hu
abbrev sen0 : sen := ((0, 0, 0, 0), (fun _ => 0), (fun _ => []), [])
