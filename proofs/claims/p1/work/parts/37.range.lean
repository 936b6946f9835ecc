theorem it_inv {σ : Type} (f : Int → σ → σ) (P : Int → σ → Prop) (hs : ∀ j s, P j s → P (j + 1) (f j s)) : ∀ (n : Nat) (i : Int) (s : σ), P i s → P (i + n) (it f n i s)
  | 0, i, s, h => by
    rw [show i + ((0 : Nat) : Int) = i by omega]
    exact h
  | n + 1, i, s, h => by
    have h1 := it_inv f P hs n (i + 1) (f i s) (hs i s h)
    rw [show i + ((n + 1 : Nat) : Int) = i + 1 + (n : Int) by omega]
    exact h1
theorem pow8_le8 : ∀ (k : Nat) (i : Int), 0 ≤ i → i + k = 8 → pow8 i ≤ 18446744073709551616
  | 0, i, h0, h => by
    rw [show i = 8 by omega]
    decide +kernel
  | k + 1, i, h0, h => by
    have h1 := pow8_le8 k (i + 1) (by omega) (by omega)
    have h2 := pow8_pos i
    rw [pow8_succ h0] at h1
    omega
theorem p_low_w {c : Int} (h : p_wc c = true) : 0 ≤ p_low c ∧ p_low c < 128 := by
  simp only [p_wc, p_let, p_sml, p_cap, p_dig, Bool.or_eq_true, decide_eq_true_eq] at h
  unfold p_low
  split <;> (simp only [p_cap, decide_eq_true_eq] at *; omega)
theorem pw_half {w c i : Int} (hw : 0 ≤ w ∧ 2 * w < pow8 i) (hc : 0 ≤ c ∧ c < 128) (hi : 0 ≤ i) : 0 ≤ w + c * pow8 i ∧ 2 * (w + c * pow8 i) < pow8 (i + 1) := by
  have h1 := pow8_pos i
  have h2 : c * pow8 i ≤ 127 * pow8 i := Int.mul_le_mul_of_nonneg_right (by omega) (by omega)
  have h3 : 0 ≤ c * pow8 i := Int.mul_nonneg hc.1 (by omega)
  rw [pow8_succ hi]
  omega
theorem pw_wide {w i : Int} (hw : 0 ≤ w ∧ 2 * w < pow8 i) (hi : 0 ≤ i) : 0 ≤ w ∧ 2 * w < pow8 (i + 1) := by
  have h1 := pow8_pos i
  rw [pow8_succ hi]
  omega
theorem aof_rng (t : List Int) : 0 ≤ aof t ∧ aof t < 9223372036854775808 := by
  unfold aof
  by_cases h : 8 < t.length
  · rw [if_pos h]
    omega
  · rw [if_neg h]
    have h1 := it_inv (ast_ t) (fun i s => 0 ≤ i ∧ (0 ≤ s.2 ∧ 2 * s.2 < pow8 i)) (fun j s hp => by
      refine ⟨by omega, ?_⟩
      unfold ast_
      by_cases q1 : s.1 = 0
      · rw [if_pos q1]
        by_cases q2 : p_wc (tg t j) = true
        · rw [if_pos q2]
          exact pw_half hp.2 (p_low_w q2) hp.1
        · rw [if_neg q2]
          have := pow8_pos (j + 1)
          exact ⟨by decide, by show 2 * (0 : Int) < _; omega⟩
      · rw [if_neg q1]
        exact pw_wide hp.2 hp.1) ((t.length : Int) - 0).toNat 0 (0, 0) ⟨by omega, by decide +kernel⟩
    have h2 := pow8_le8 (8 - t.length) (0 + (((t.length : Int) - 0).toNat : Int)) (by omega) (by omega)
    obtain ⟨-, h3, h4⟩ := h1
    exact ⟨h3, by omega⟩
theorem wof_rng (x : Int) : 0 ≤ wof x ∧ wof x < 9223372036854775808 := by
  unfold wof
  have h1 := it_inv (wst x) (fun i s => 0 ≤ i ∧ (0 ≤ s.2 ∧ 2 * s.2 < pow8 i)) (fun j s hp => by
    refine ⟨by omega, ?_⟩
    unfold wst
    by_cases q1 : s.1 = 0
    · rw [if_pos q1]
      by_cases q3 : p_prn (by_ x j) = true
      · rw [if_pos q3]
        by_cases q2 : p_wc (by_ x j) = true
        · rw [if_pos q2]
          exact pw_half hp.2 (p_low_w q2) hp.1
        · rw [if_neg q2]
          have := pow8_pos (j + 1)
          exact ⟨by decide, by show 2 * (0 : Int) < _; omega⟩
      · rw [if_neg q3]
        exact pw_wide hp.2 hp.1
    · rw [if_neg q1]
      exact pw_wide hp.2 hp.1) ((8 : Int) - 0).toNat 0 (0, 0) ⟨by omega, by decide +kernel⟩
  have h2 := pow8_le8 0 (0 + (((8 : Int) - 0).toNat : Int)) (by omega) (by omega)
  obtain ⟨-, h3, h4⟩ := h1
  exact ⟨h3, by omega⟩
