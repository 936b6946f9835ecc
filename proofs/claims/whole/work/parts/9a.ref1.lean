/-! The reference's texts as lists: text k has its size at S 3 k, its characters at S 4 from 60 k on. -/
def TX (S : s_M) (T : Int → List Int) : Prop := ∀ k : Int, 0 ≤ k → k < 85 → S 3 k = ((T k).length : Int) ∧ (T k).length ≤ 60 ∧ ∀ i : Int, 0 ≤ i → i < ((T k).length : Int) → S 4 (60 * k + i) = tg (T k) i
/-- all but the texts is the same -/
def exT (S S' : s_M) : Prop := ∀ k j : Int, k ≠ 3 → k ≠ 4 → S' k j = S k j
theorem exT.refl (S : s_M) : exT S S := fun _ _ _ _ => rfl
theorem exT.trans {A B C : s_M} (h1 : exT A B) (h2 : exT B C) : exT A C := fun k j a b => (h2 k j a b).trans (h1 k j a b)
theorem TX.len {S : s_M} {T : Int → List Int} (h : TX S T) {k : Int} (hk : 0 ≤ k ∧ k < 85) : S 3 k = ((T k).length : Int) ∧ (T k).length ≤ 60 := ⟨(h k hk.1 hk.2).1, (h k hk.1 hk.2).2.1⟩
theorem TX.ch {S : s_M} {T : Int → List Int} (h : TX S T) {k i : Int} (hk : 0 ≤ k ∧ k < 85) (hi : 0 ≤ i ∧ i < ((T k).length : Int)) : S 4 (60 * k + i) = tg (T k) i := (h k hk.1 hk.2).2.2 i hi.1 hi.2
theorem TX.ex {S S' : s_M} {T : Int → List Int} (h : TX S T) (e : ∀ k j : Int, k = 3 ∨ k = 4 → S' k j = S k j) : TX S' T := fun k h0 h1 => by
  obtain ⟨a, b, c⟩ := h k h0 h1
  exact ⟨(e 3 k (Or.inl rfl)).trans a, b, fun i i0 i1 => (e 4 _ (Or.inr rfl)).trans (c i i0 i1)⟩
theorem p_at {N : Nat} {S : s_M} {t k : Int} (ht : 0 ≤ t ∧ t < 85) (hk : 0 ≤ k ∧ k < 60) : A_at N t k S = some (S 4 (60 * t + k), S) := by
  rw [A_at_e, chk_e (by omega), chk_e (by omega), chk_e (by omega)]
theorem p_att {N : Nat} {S : s_M} {T : Int → List Int} (h : TX S T) {t k : Int} (ht : 0 ≤ t ∧ t < 85) (hk : 0 ≤ k ∧ k < ((T t).length : Int)) : A_at N t k S = some (tg (T t) k, S) := by
  have := h.len ht
  rw [p_at ht (by omega), h.ch ht hk]
theorem p_clear {N : Nat} {S : s_M} {t : Int} (ht : 0 ≤ t ∧ t < 85) : A_clearText N t S = some (0, m_s S 3 t 0) := by
  rw [A_clearText_e, chk_e (by omega)]
theorem lset_at {T : Int → List Int} {j : Int} {u : List Int} : lset T j u j = u := if_pos rfl
theorem lset_ne {T : Int → List Int} {j k : Int} {u : List Int} (h : k ≠ j) : lset T j u k = T k := if_neg h
theorem TX.clear {S : s_M} {T : Int → List Int} (h : TX S T) {t : Int} : TX (m_s S 3 t 0) (lset T t []) ∧ exT S (m_s S 3 t 0) := by
  refine ⟨fun k h0 h1 => ?_, fun k j a b => m_sk a⟩
  by_cases e : k = t
  · rw [e, lset_at]
    exact ⟨m_s_s, by decide, fun i i0 i1 => absurd i1 (by show ¬ i < ((0 : Nat) : Int); omega)⟩
  · obtain ⟨a, b, c⟩ := h k h0 h1
    rw [lset_ne e]
    exact ⟨(m_sj e).trans a, b, fun i i0 i1 => (m_sk (by decide)).trans (c i i0 i1)⟩
theorem ta_le60 {u : List Int} {c : Int} (h : u.length ≤ 60) : (ta 60 u c).length ≤ 60 := by
  unfold ta
  split
  · rw [List.length_append]
    show u.length + 1 ≤ 60
    omega
  · exact h
theorem p_add {N : Nat} {S : s_M} {T : Int → List Int} (h : TX S T) {t c : Int} (ht : 0 ≤ t ∧ t < 85) : ∃ S', A_add N t c S = some (0, S') ∧ TX S' (lset T t (ta 60 (T t) c)) ∧ exT S S' := by
  obtain ⟨a, b⟩ := h.len ht
  by_cases e : (T t).length = 60
  · refine ⟨S, ?_, ?_, exT.refl S⟩
    · rw [A_add_e, chk_e (by omega), if_pos (by omega)]
    · have e2 : ta 60 (T t) c = T t := if_neg (by omega)
      rw [e2]
      intro k h0 h1
      by_cases ek : k = t
      · rw [ek, lset_at]
        exact h t ht.1 ht.2
      · rw [lset_ne ek]
        exact h k h0 h1
  · refine ⟨m_s (m_s S 4 (60 * t + S 3 t) c) 3 t (S 3 t + 1), ?_, ?_, fun k j q1 q2 => (m_sk q1).trans (m_sk q2)⟩
    · rw [A_add_e, chk_e (by omega), if_neg (by omega), chk_e (by omega), chk_e (by omega), chk_e (by omega), chk_e (by omega), chk_e (by omega), chk_e (by omega), chk_e (by omega)]
    · have e2 : ta 60 (T t) c = T t ++ [c] := if_pos (by omega)
      rw [e2]
      intro k h0 h1
      by_cases ek : k = t
      · rw [ek, lset_at, List.length_append]
        refine ⟨?_, by show (T t).length + 1 ≤ 60; omega, fun i i0 i1 => ?_⟩
        · rw [m_s_s, a]
          show ((T t).length : Int) + 1 = (((T t).length + 1 : Nat) : Int)
          omega
        · rw [m_sk (by decide), tg_app, a]
          by_cases ei : i = ((T t).length : Int)
          · rw [if_pos ei, ei, m_s_s]
          · rw [if_neg ei, m_sj (by omega)]
            have i2 : i < (((T t).length + 1 : Nat) : Int) := i1
            exact h.ch ht ⟨i0, by omega⟩
      · rw [lset_ne ek]
        obtain ⟨a1, b1, c1⟩ := h k h0 h1
        refine ⟨(m_sj ek).trans ((m_sk (by decide)).trans a1), b1, fun i i0 i1 => ?_⟩
        rw [m_sk (by decide), m_sj (by omega)]
        exact c1 i i0 i1
/-- what copying does -/
def cpS (S : s_M) (a b k n : Int) : s_M := fun q j => if q = 4 ∧ 60 * b + k ≤ j ∧ j < 60 * b + n then S 4 (60 * a + (j - 60 * b)) else S q j
theorem p_copyl {N : Nat} {a b : Int} (ha : 0 ≤ a ∧ a < 85) (hb : 0 ≤ b ∧ b < 85) : ∀ (m n : Nat) (k : Int) (S : s_M), 0 ≤ k → k + m ≤ 60 → S 3 a = k + m → m < n → A_copy_l14 N n a b k S = some (0, cpS S a b k (k + m))
  | m, 0, k, S, h0, h1, h2, h3 => absurd h3 (Nat.not_lt_zero _)
  | 0, n + 1, k, S, h0, h1, h2, h3 => by
    rw [A_copy_l14_e, chk_e ha, if_neg (by omega)]
    have : cpS S a b k (k + ((0 : Nat) : Int)) = S := by
      funext q j
      exact if_neg (by omega)
    rw [this]
  | m + 1, n + 1, k, S, h0, h1, h2, h3 => by
    rw [A_copy_l14_e, chk_e ha, if_pos (by omega), chk_e (by omega), chk_e (by omega), bnd_e (p_at ha (by omega)), chk_e (by omega), chk_e (by omega)]
    rw [p_copyl ha hb m n (k + 1) (m_s S 4 (60 * b + k) (S 4 (60 * a + k))) (by omega) (by omega) (by rw [m_sk (by decide)]; omega) (by omega)]
    congr 2
    funext q j
    unfold cpS
    by_cases e4 : q = 4
    · rw [e4]
      by_cases e1 : 60 * b + (k + 1) ≤ j ∧ j < 60 * b + (k + 1 + (m : Int))
      · rw [if_pos ⟨rfl, e1⟩, if_pos ⟨rfl, by omega⟩]
        by_cases e2 : a = b
        · rw [m_sj (by omega)]
        · rw [m_sj (by omega)]
      · rw [if_neg (fun z => e1 z.2)]
        by_cases e3 : j = 60 * b + k
        · rw [e3, m_s_s, if_pos ⟨rfl, by omega⟩]
          congr 1
          omega
        · rw [m_sj e3, if_neg (by omega)]
    · rw [if_neg (fun z => e4 z.1), if_neg (fun z => e4 z.1), m_sk e4]
theorem p_copy {N : Nat} (hN : 100 ≤ N) {S : s_M} {T : Int → List Int} (h : TX S T) {a b : Int} (ha : 0 ≤ a ∧ a < 85) (hb : 0 ≤ b ∧ b < 85) : ∃ S', A_copy N a b S = some (0, S') ∧ TX S' (lset T b (T a)) ∧ exT S S' := by
  obtain ⟨la, lb⟩ := h.len ha
  have e3 : m_s S 3 b (S 3 a) 3 a = S 3 a := by
    by_cases e : a = b
    · rw [e, m_s_s]
    · exact m_sj e
  have hl := p_copyl (N := N) ha hb (T a).length N 0 (m_s S 3 b (S 3 a)) (by omega) (by omega) (by rw [e3, la]; omega) (by omega)
  rw [show (0 : Int) + ((T a).length : Int) = ((T a).length : Int) by omega] at hl
  refine ⟨_, by rw [A_copy_e, chk_e ha, chk_e hb]; exact hl, fun k h0 h1 => ?_, fun k j q1 q2 => ?_⟩
  · by_cases ek : k = b
    · rw [ek, lset_at]
      refine ⟨?_, lb, fun i i0 i1 => ?_⟩
      · show cpS _ a b 0 _ 3 b = _
        unfold cpS
        rw [if_neg (fun z => absurd z.1 (by decide)), m_s_s, la]
      · show cpS _ a b 0 _ 4 (60 * b + i) = _
        unfold cpS
        rw [if_pos ⟨rfl, by omega⟩, m_sk (by decide), show 60 * a + (60 * b + i - 60 * b) = 60 * a + i by omega]
        exact h.ch ha ⟨i0, i1⟩
    · rw [lset_ne ek]
      obtain ⟨a1, b1, c1⟩ := h k h0 h1
      refine ⟨?_, b1, fun i i0 i1 => ?_⟩
      · show cpS _ a b 0 _ 3 k = _
        unfold cpS
        rw [if_neg (fun z => absurd z.1 (by decide)), m_sj ek, a1]
      · show cpS _ a b 0 _ 4 (60 * k + i) = _
        unfold cpS
        rw [if_neg (by omega), m_sk (by decide)]
        exact c1 i i0 i1
  · show cpS _ a b 0 _ k j = _
    unfold cpS
    rw [if_neg (fun z => q2 z.1), m_sk q1]
