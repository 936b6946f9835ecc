theorem dig_hr {t : List Int} {i : Int} : p_dig (hr t i) = p_dig (tg t i) := by
  by_cases h : i < (t.length : Int)
  · rw [hr_in h]
  · have := hr_out h
    rw [this.1, this.2]
    rfl
theorem dgr_ge {t : List Int} : ∀ (m : Nat) (q : Int), q ≤ dgr t m q
  | 0, q => Int.le_refl _
  | m + 1, q => by
    have := dgr_ge (t := t) m (q + 1)
    show q ≤ (if p_dig (tg t q) = true then dgr t m (q + 1) else q)
    split <;> omega
theorem p_dgl {N : Nat} {t : List Int} : ∀ (m n : Nat) (k j : Int) (S : s_M) (T : Int → List Int) (v : List Int) (V : Int → Int) (F : Int), TX S T → srx S t → S 0 17 = j → 0 ≤ j → 0 ≤ k → k + m = 9 → fdk S T v (V 12) (V 13) F → F + 2 * m ≤ 1000000 → m < n → ∃ S' T' F', A_piece_l18 N n k S = some (0, S') ∧ pcR S S' T T' true (dgr t m j) (apc t j (dgr t m j) (v, V)) (F + 2 * m) F'
  | m, 0, k, j, S, T, v, V, F, ht, hs, h17, h0, hk, hm, hf, hF, hn => absurd hn (Nat.not_lt_zero _)
  | 0, n + 1, k, j, S, T, v, V, F, ht, hs, h17, h0, hk, hm, hf, hF, hn => by
    refine ⟨S, T, F, by rw [A_piece_l18_e, if_neg (by omega), A_piece_j58_e, A_piece_j171_e], ht, fun _ _ => rfl, ?_⟩
    show (if true = true then _ else _)
    rw [if_pos rfl, show dgr t 0 j = j from rfl, apc_nil]
    exact ⟨exW.refl S, h17, hf, by omega⟩
  | m + 1, n + 1, k, j, S, T, v, V, F, ht, hs, h17, h0, hk, hm, hf, hF, hn => by
    have hh := p_here (N := N) hs h17 h0
    have h320 := hs.2.1
    have e : dgr t (m + 1) j = if p_dig (tg t j) = true then dgr t m (j + 1) else j := rfl
    rw [A_piece_l18_e, if_pos (by omega), bnd_e hh, bnd_e hh, dig_hr, e]
    by_cases c : p_dig (tg t j) = true
    · have hj : j < (t.length : Int) := by
        by_cases w : j < (t.length : Int)
        · exact w
        · rw [(hr_out w).2] at c
          exact absurd c (by decide)
      rw [if_pos c, if_pos c, hr_in hj]
      obtain ⟨S1, T1, F1, a1, a2, a3, a4, a5, a6, a7⟩ := p_feed (N := N) (c := tg t j) ht hf (by omega)
      have k17 : S1 0 17 = j := (a7 0 17 (by decide) (by decide) (by omega)).trans h17
      rw [bnd_e a1, k17, chk_e (by omega), chk_e (by omega)]
      obtain ⟨S2, T2, F2, b1, b2, b3, b4⟩ := p_dgl (N := N) (t := t) m n (k + 1) (j + 1) (m_s S1 0 17 (j + 1)) T1 (avv (tg t j) v (V 12)) (avV (tg t j) v V) F1 (a2.ex (fun q j z => m_sk (by omega))) ((hs.exw a7.exW).at) m_s_s (by omega) (by omega) (by omega) a4.at (by omega) (by omega)
      rw [if_pos rfl] at b4
      obtain ⟨d1, d2, d3, d4⟩ := b4
      have hge := dgr_ge (t := t) m (j + 1)
      refine ⟨S2, T2, F2, b1, b2, fun q z => (b3 q z).trans (a3 q z), ?_⟩
      rw [if_pos rfl, apc_step (show j < dgr t m (j + 1) by omega)]
      exact ⟨(a7.exW.trans exW.at).trans d1, d2, d3, by omega⟩
    · rw [if_neg c, if_neg c, A_piece_j58_e, A_piece_j171_e]
      refine ⟨S, T, F, rfl, ht, fun _ _ => rfl, ?_⟩
      rw [if_pos rfl, apc_nil]
      exact ⟨exW.refl S, h17, hf, by omega⟩
theorem p_sfl {N : Nat} {u : List Int} {k pl : Int} (hk : 0 ≤ k ∧ k < 8) (hu : u.length ≤ 60) : ∀ (m n : Nat) (i : Int) (S : s_M) (T : Int → List Int) (v : List Int) (V : Int → Int) (F : Int), TX S T → T (54 + k) = u → S 0 17 = pl → S 0 18 = 0 → 0 ≤ i → i + m = (u.length : Int) → fdk S T v (V 12) (V 13) F → F + 2 * m ≤ 1000000 → m < n → ∃ S' T' F', A_piece_l123 N n k i S = some (0, S') ∧ pcR S S' T T' true pl (apc u i (u.length : Int) (v, V)) (F + 2 * m) F'
  | m, 0, i, S, T, v, V, F, ht, hT, h17, h18, h0, hm, hf, hF, hn => absurd hn (Nat.not_lt_zero _)
  | 0, n + 1, i, S, T, v, V, F, ht, hT, h17, h18, h0, hm, hf, hF, hn => by
    have hl := ht.len (k := 54 + k) (by omega)
    rw [hT] at hl
    refine ⟨S, T, F, by rw [A_piece_l123_e, if_pos h18, if_neg (by omega), chk_e (by omega), chk_e (by omega), if_neg (by omega), A_piece_j171_e], ht, fun _ _ => rfl, ?_⟩
    rw [if_pos rfl, show (u.length : Int) = i by omega, apc_nil]
    exact ⟨exW.refl S, h17, hf, by omega⟩
  | m + 1, n + 1, i, S, T, v, V, F, ht, hT, h17, h18, h0, hm, hf, hF, hn => by
    have hl := ht.len (k := 54 + k) (by omega)
    have ha := p_att (N := N) ht (t := 54 + k) (k := i) (by omega) (by rw [hT]; omega)
    rw [hT] at hl ha
    obtain ⟨S1, T1, F1, a1, a2, a3, a4, a5, a6, a7⟩ := p_feed (N := N) (c := tg u i) ht hf (by omega)
    obtain ⟨S2, T2, F2, b1, b2, b3, b4⟩ := p_sfl (N := N) hk hu m n (i + 1) S1 T1 (avv (tg u i) v (V 12)) (avV (tg u i) v V) F1 a2 ((a3 _ (by omega)).trans hT) ((a7 0 17 (by decide) (by decide) (by omega)).trans h17) ((a7 0 18 (by decide) (by decide) (by omega)).trans h18) (by omega) (by omega) a4 (by omega) (by omega)
    rw [if_pos rfl] at b4
    obtain ⟨d1, d2, d3, d4⟩ := b4
    refine ⟨S2, T2, F2, ?_, b2, fun q z => (b3 q z).trans (a3 q z), ?_⟩
    · rw [A_piece_l123_e, if_pos h18, if_neg (by omega), chk_e (by omega), chk_e (by omega), if_pos (by omega), chk_e (by omega), bnd_e ha, bnd_e a1, chk_e (by omega)]
      exact b1
    · rw [if_pos rfl, apc_step (show i < (u.length : Int) by omega)]
      exact ⟨a7.exW.trans d1, d2, d3, by omega⟩
