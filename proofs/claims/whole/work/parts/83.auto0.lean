/-! The reference's methods as functions on the rows of its memory: what they read and write, with checks of what must hold; printed from the code. -/
abbrev rI (x : Int) : Prop := -2147483648 ≤ x ∧ x < 2147483648
abbrev rO : Type := Option (Int × s_M)
def chk (c : Prop) [Decidable c] (x : rO) : rO := if c then x else none
def bnd (x : rO) (k : Int → s_M → rO) : rO := match x with
  | some q => k q.1 q.2
  | none => none
theorem chk_t {c : Prop} [Decidable c] {x : rO} {R : Int × s_M} (h : chk c x = some R) : c ∧ x = some R := by
  unfold chk at h
  split at h
  · rename_i hc
    exact ⟨hc, h⟩
  · cases h
theorem chk_e {c : Prop} [Decidable c] {x : rO} (h : c) : chk c x = x := if_pos h
theorem bnd_t {x : rO} {k : Int → s_M → rO} {R : Int × s_M} (h : bnd x k = some R) : ∃ (v : Int) (S : s_M), x = some (v, S) ∧ k v S = some R := by
  cases x with
  | none => cases h
  | some q => exact ⟨q.1, q.2, rfl, h⟩
theorem bnd_e {x : rO} {k : Int → s_M → rO} {v : Int} {S : s_M} (h : x = some (v, S)) : bnd x k = k v S := by rw [h]; rfl
theorem if_t {c : Prop} [Decidable c] {a b R : rO} (h : (if c then a else b) = R) (hc : c) : a = R := (if_pos hc).symm.trans h
theorem if_f {c : Prop} [Decidable c] {a b R : rO} (h : (if c then a else b) = R) (hc : ¬ c) : b = R := (if_neg hc).symm.trans h
theorem bnf {b : Bool} (h : b = false) : ¬ b = true := by rw [h]; decide
theorem rI_ite {c : Prop} [Decidable c] {a b : Int} (h1 : rI a) (h2 : rI b) : rI (if c then a else b) := by split <;> assumption
theorem rL_ite {c : Prop} [Decidable c] {a b : Int} (h1 : rL a) (h2 : rL b) : rL (if c then a else b) := by split <;> assumption
theorem rI_eq {a b : Int} (h : rI a) (e : a = b) : rI b := e ▸ h
theorem rL_eq {a b : Int} (h : rL a) (e : a = b) : rL b := e ▸ h
theorem rI_L {a : Int} (h : rI a) : rL a := ⟨by omega, by omega⟩
theorem rI_b (b : Bool) : rI (s_b b) := by cases b <;> decide
theorem rI_z {a : Int} (h : 0 ≤ a ∧ a ≤ 1) : rI a := ⟨by omega, by omega⟩
theorem sc_ne {a b : Int} (h : s_cmp a b ≠ 0) : a ≠ b := fun e => h (by rw [e]; unfold s_cmp; rw [if_neg (by omega), if_pos rfl])
theorem sc_lt {a b : Int} (h : s_cmp a b < 0) : a < b := by
  unfold s_cmp at h
  split at h
  · omega
  · split at h <;> omega
theorem sc_ge {a b : Int} (h : 0 ≤ s_cmp a b) : b ≤ a := by
  unfold s_cmp at h
  split at h
  · omega
  · split at h <;> omega
theorem sc_gt {a b : Int} (h : 0 < s_cmp a b) : b < a := by
  unfold s_cmp at h
  split at h
  · omega
  · split at h <;> omega
theorem sc_le {a b : Int} (h : s_cmp a b ≤ 0) : a ≤ b := by
  unfold s_cmp at h
  split at h
  · omega
  · split at h <;> omega
theorem rI_cmp (a b : Int) : rI (s_cmp a b) := by
  unfold s_cmp
  split
  · decide
  · split <;> decide
def l_and (x y : Int) : Int := (Int64.ofInt x &&& Int64.ofInt y).toInt
def l_orr (x y : Int) : Int := (Int64.ofInt x ||| Int64.ofInt y).toInt
def l_shf (x y : Int) : Int := (Int64.ofInt x <<< ((Int32.ofInt y).toInt64 &&& 63)).toInt
def l_quo (x y : Int) : Int := (Int64.ofInt x / Int64.ofInt y).toInt
def l_mod (x y : Int) : Int := (Int64.ofInt x - Int64.ofInt x / Int64.ofInt y * Int64.ofInt y).toInt
theorem rL_64 (x : Int64) : rL x.toInt := ⟨Int64.le_toInt _, Int64.toInt_lt _⟩
theorem m_sk {S : s_M} {k j x k' j' : Int} (h : k' ≠ k) : m_s S k j x k' j' = S k' j' := if_neg (fun q => h q.1)
theorem m_sj {S : s_M} {k j x k' j' : Int} (h : j' ≠ j) : m_s S k j x k' j' = S k' j' := if_neg (fun q => h q.2)
/-- what a cell of the reference may hold -/
def rgk (k j x : Int) : Prop := if k = 5 ∨ k = 6 ∨ k = 8 ∨ k = 9 ∨ k = 10 ∨ k = 14 ∨ k = 21 then rL x else if k = 0 ∧ (j = 1 ∨ j = 3 ∨ j = 4 ∨ j = 5 ∨ j = 7 ∨ j = 8 ∨ j = 9 ∨ j = 10 ∨ j = 12 ∨ j = 14 ∨ j = 16 ∨ j = 22 ∨ j = 23 ∨ j = 24 ∨ j = 25 ∨ j = 27 ∨ j = 28 ∨ j = 33 ∨ j = 34 ∨ j = 35 ∨ j = 36 ∨ j = 39 ∨ j = 40 ∨ j = 41 ∨ j = 42 ∨ j = 46 ∨ j = 47 ∨ j = 48) then True else if k = 0 ∧ (j = 18 ∨ j = 19 ∨ j = 32 ∨ j = 43) then 0 ≤ x ∧ x ≤ 1 else rI x
/-- the reference's memory, as rows S; what stood there before is M0 -/
def mq (sh : s_S) (M0 M : s_M) (r : Int) (S : s_M) : Prop := mds sh M r ∧ (∀ k : Int, 0 ≤ k → k ≤ 28 → M (r + k) = S k) ∧ (∀ k j : Int, rgk k j (S k j)) ∧ fr (fun z => r ≤ z ∧ z ≤ r + 28) M0 M
theorem mq.s {sh : s_S} {M0 M : s_M} {r : Int} {S : s_M} (h : mq sh M0 M r S) (j : Int) : M r j = S 0 j := by
  have := h.2.1 0 (by decide) (by decide)
  rw [Int.add_zero] at this
  rw [this]
theorem mq.a {sh : s_S} {M0 M : s_M} {r : Int} {S : s_M} (h : mq sh M0 M r S) {k : Int} (hk : 0 ≤ k ∧ k ≤ 28) (j : Int) : M (r + k) j = S k j := congrFun (h.2.1 k hk.1 hk.2) j
theorem mq.gA {sh : s_S} {M0 M : s_M} {r : Int} {S : s_M} (h : mq sh M0 M r S) {k : Int} (hk : ¬ (k = 5 ∨ k = 6 ∨ k = 8 ∨ k = 9 ∨ k = 10 ∨ k = 14 ∨ k = 21) ∧ k ≠ 0) (j : Int) : rI (S k j) := by
  have := h.2.2.1 k j
  unfold rgk at this
  rw [if_neg hk.1, if_neg (fun q => hk.2 q.1), if_neg (fun q => hk.2 q.1)] at this
  exact this
theorem mq.gL {sh : s_S} {M0 M : s_M} {r : Int} {S : s_M} (h : mq sh M0 M r S) {k : Int} (hk : k = 5 ∨ k = 6 ∨ k = 8 ∨ k = 9 ∨ k = 10 ∨ k = 14 ∨ k = 21) (j : Int) : rL (S k j) := by
  have := h.2.2.1 k j
  unfold rgk at this
  rw [if_pos hk] at this
  exact this
theorem mq.gS {sh : s_S} {M0 M : s_M} {r : Int} {S : s_M} (h : mq sh M0 M r S) (j : Int) (h1 : ¬ (j = 1 ∨ j = 3 ∨ j = 4 ∨ j = 5 ∨ j = 7 ∨ j = 8 ∨ j = 9 ∨ j = 10 ∨ j = 12 ∨ j = 14 ∨ j = 16 ∨ j = 22 ∨ j = 23 ∨ j = 24 ∨ j = 25 ∨ j = 27 ∨ j = 28 ∨ j = 33 ∨ j = 34 ∨ j = 35 ∨ j = 36 ∨ j = 39 ∨ j = 40 ∨ j = 41 ∨ j = 42 ∨ j = 46 ∨ j = 47 ∨ j = 48)) (h2 : ¬ (j = 18 ∨ j = 19 ∨ j = 32 ∨ j = 43)) : rI (S 0 j) := by
  have := h.2.2.1 0 j
  unfold rgk at this
  rw [if_neg (by decide), if_neg (fun q => h1 q.2), if_neg (fun q => h2 q.2)] at this
  exact this
theorem mq.gB {sh : s_S} {M0 M : s_M} {r : Int} {S : s_M} (h : mq sh M0 M r S) (j : Int) (h1 : ¬ (j = 1 ∨ j = 3 ∨ j = 4 ∨ j = 5 ∨ j = 7 ∨ j = 8 ∨ j = 9 ∨ j = 10 ∨ j = 12 ∨ j = 14 ∨ j = 16 ∨ j = 22 ∨ j = 23 ∨ j = 24 ∨ j = 25 ∨ j = 27 ∨ j = 28 ∨ j = 33 ∨ j = 34 ∨ j = 35 ∨ j = 36 ∨ j = 39 ∨ j = 40 ∨ j = 41 ∨ j = 42 ∨ j = 46 ∨ j = 47 ∨ j = 48)) (h2 : j = 18 ∨ j = 19 ∨ j = 32 ∨ j = 43) : 0 ≤ S 0 j ∧ S 0 j ≤ 1 := by
  have := h.2.2.1 0 j
  unfold rgk at this
  rw [if_neg (by decide), if_neg (fun q => h1 q.2), if_pos ⟨rfl, h2⟩] at this
  exact this
theorem mq.put {sh : s_S} {M0 M : s_M} {r : Int} {S : s_M} (h : mq sh M0 M r S) {k j x : Int} (hk : 1 ≤ k ∧ k ≤ 28) (hx : rgk k j x) : mq sh M0 (m_s M (r + k) j x) r (m_s S k j x) := by
  obtain ⟨h1, h2, h3, h4⟩ := h
  refine ⟨h1.off (m_s_a (by omega)), fun q q1 q2 => ?_, fun q i => ?_, fun z hz => ?_⟩
  · funext i
    by_cases e : q = k
    · rw [e]
      by_cases e2 : i = j
      · rw [e2, m_s_s, m_s_s]
      · rw [m_s_n (fun a => e2 a.2), m_s_n (fun a => e2 a.2), h2 k (by omega) hk.2]
    · rw [m_s_n (fun a => e (by omega)), m_s_n (fun a => e a.1), h2 q q1 q2]
  · unfold m_s
    split
    · rename_i e
      rw [e.1, e.2]
      exact hx
    · exact h3 q i
  · have hz1 : ¬ (r ≤ z ∧ z ≤ r + 28) := hz
    exact (m_s_a (by omega)).trans (h4 z hz)
theorem mq.put0 {sh : s_S} {M0 M : s_M} {r : Int} {S : s_M} (h : mq sh M0 M r S) {j x : Int} (hj : mL.all (fun q => q.2.2.1 != j) = true) (hx : rgk 0 j x) : mq sh M0 (m_s M r j x) r (m_s S 0 j x) := by
  obtain ⟨h1, h2, h3, h4⟩ := h
  refine ⟨h1.put hj, fun q q1 q2 => ?_, fun q i => ?_, fun z hz => ?_⟩
  · funext i
    by_cases e : q = 0
    · rw [e, Int.add_zero]
      by_cases e2 : i = j
      · rw [e2, m_s_s, m_s_s]
      · have e3 := h2 0 (by omega) (by omega)
        rw [Int.add_zero] at e3
        rw [m_s_n (fun a => e2 a.2), m_s_n (fun a => e2 a.2), e3]
    · rw [m_s_n (fun a => e (by omega)), m_s_n (fun a => e a.1), h2 q q1 q2]
  · unfold m_s
    split
    · rename_i e
      rw [e.1, e.2]
      exact hx
    · exact h3 q i
  · have hz1 : ¬ (r ≤ z ∧ z ≤ r + 28) := hz
    have := h1.2.1
    exact (m_s_a (by omega)).trans (h4 z hz)
theorem ret_i {sh : s_S} {M0 M : s_M} {r sz e v0 : Int} {S S0 : s_M} (hF : (some (e, S) : rO) = some (v0, S0)) (hr : rI e) (hm : mq sh M0 M r S) : some (vi e) = some (vi v0) ∧ sh = sh ∧ sz = sz ∧ rI v0 ∧ mq sh M0 M r S0 := by
  cases hF
  exact ⟨rfl, rfl, rfl, hr, hm⟩
theorem ret_l {sh : s_S} {M0 M : s_M} {r sz e v0 : Int} {S S0 : s_M} (hF : (some (e, S) : rO) = some (v0, S0)) (hr : rL e) (hm : mq sh M0 M r S) : some (vl e) = some (vl v0) ∧ sh = sh ∧ sz = sz ∧ rL v0 ∧ mq sh M0 M r S0 := by
  cases hF
  exact ⟨rfl, rfl, rfl, hr, hm⟩
theorem ret_v {sh : s_S} {M0 M : s_M} {r sz v0 : Int} {S S0 : s_M} (hF : (some (0, S) : rO) = some (v0, S0)) (hm : mq sh M0 M r S) : (none : Option Value) = none ∧ sh = sh ∧ sz = sz ∧ mq sh M0 M r S0 := by
  cases hF
  exact ⟨rfl, rfl, rfl, hm⟩
theorem rg_A {k j x : Int} (hk : ¬ (k = 5 ∨ k = 6 ∨ k = 8 ∨ k = 9 ∨ k = 10 ∨ k = 14 ∨ k = 21) ∧ k ≠ 0) (h : rI x) : rgk k j x := by
  unfold rgk
  rw [if_neg hk.1, if_neg (fun q => hk.2 q.1), if_neg (fun q => hk.2 q.1)]
  exact h
theorem rg_L {k j x : Int} (hk : k = 5 ∨ k = 6 ∨ k = 8 ∨ k = 9 ∨ k = 10 ∨ k = 14 ∨ k = 21) (h : rL x) : rgk k j x := by
  unfold rgk
  rw [if_pos hk]
  exact h
theorem rg_S {j x : Int} (h1 : ¬ (j = 1 ∨ j = 3 ∨ j = 4 ∨ j = 5 ∨ j = 7 ∨ j = 8 ∨ j = 9 ∨ j = 10 ∨ j = 12 ∨ j = 14 ∨ j = 16 ∨ j = 22 ∨ j = 23 ∨ j = 24 ∨ j = 25 ∨ j = 27 ∨ j = 28 ∨ j = 33 ∨ j = 34 ∨ j = 35 ∨ j = 36 ∨ j = 39 ∨ j = 40 ∨ j = 41 ∨ j = 42 ∨ j = 46 ∨ j = 47 ∨ j = 48)) (h2 : ¬ (j = 18 ∨ j = 19 ∨ j = 32 ∨ j = 43)) (h : rI x) : rgk 0 j x := by
  unfold rgk
  rw [if_neg (by decide), if_neg (fun q => h1 q.2), if_neg (fun q => h2 q.2)]
  exact h
theorem rg_B {j x : Int} (h1 : ¬ (j = 1 ∨ j = 3 ∨ j = 4 ∨ j = 5 ∨ j = 7 ∨ j = 8 ∨ j = 9 ∨ j = 10 ∨ j = 12 ∨ j = 14 ∨ j = 16 ∨ j = 22 ∨ j = 23 ∨ j = 24 ∨ j = 25 ∨ j = 27 ∨ j = 28 ∨ j = 33 ∨ j = 34 ∨ j = 35 ∨ j = 36 ∨ j = 39 ∨ j = 40 ∨ j = 41 ∨ j = 42 ∨ j = 46 ∨ j = 47 ∨ j = 48)) (h2 : j = 18 ∨ j = 19 ∨ j = 32 ∨ j = 43) (h : 0 ≤ x ∧ x ≤ 1) : rgk 0 j x := by
  unfold rgk
  rw [if_neg (by decide), if_neg (fun q => h1 q.2), if_pos ⟨rfl, h2⟩]
  exact h
theorem z_ite {c : Prop} [Decidable c] {a b : Int} (h1 : 0 ≤ a ∧ a ≤ 1) (h2 : 0 ≤ b ∧ b ≤ 1) : 0 ≤ (if c then a else b) ∧ (if c then a else b) ≤ 1 := by split <;> assumption
theorem z_b (b : Bool) : 0 ≤ s_b b ∧ s_b b ≤ 1 := by cases b <;> decide
theorem rI_small {a : Int} (h : rI a) : rI (p_low a) := by
  unfold p_low
  split
  · rename_i q
    simp only [p_cap, decide_eq_true_eq] at q
    exact ⟨by omega, by omega⟩
  · exact h
theorem rI_large {a : Int} (h : rI a) : rI (p_upp a) := by
  unfold p_upp
  split
  · rename_i q
    simp only [p_sml, decide_eq_true_eq] at q
    exact ⟨by omega, by omega⟩
  · exact h
