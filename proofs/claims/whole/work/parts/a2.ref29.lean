theorem pcR.from {S0 S S' : s_M} {T T' : Int → List Int} {ok : Bool} {pl : Int} {s : vst} {F F' : Int} (x : exW S0 S) (h : pcR S S' T T' ok pl s F F') : pcR S0 S' T T' ok pl s F F' := by
  obtain ⟨h1, h2, h3⟩ := h
  refine ⟨h1, h2, ?_⟩
  cases ok with
  | true =>
    rw [if_pos rfl] at h3 ⊢
    exact ⟨x.trans h3.1, h3.2⟩
  | false =>
    rw [if_neg (by decide)] at h3 ⊢
    obtain ⟨S3, d1, d2, d3⟩ := h3
    exact ⟨S3, x.trans d1, d2, d3⟩
theorem p_braced {N : Nat} (hN : 1000 ≤ N) {S : s_M} {T : Int → List Int} {t v : List Int} {V : Int → Int} {F i : Int} (ht : TX S T) (hs : srx S t) (h17 : S 0 17 = i) (h0 : 0 ≤ i ∧ i < (t.length : Int)) (hc : tg t i = 123) (h18 : S 0 18 = 0) (h21 : 0 ≤ S 0 21 ∧ S 0 21 < 1000) (hf : fdk S T v (V 12) (V 13) F) (hF : F ≤ 900000) : ∃ S' T' F', A_braced N S = some (0, S') ∧ pcR S S' T T' (decide (0 ≤ brk t i)) (if 0 ≤ brk t i then brk t i + 1 else (t.length : Int)) (apc t (i + 1) (brk t i) (v, V)) (F + 2 * ((t.length : Int) - i - 1)) F' := by
  have h320 := hs.2.1
  have e : brk t i = brc t ((t.length : Int) - i - 1).toNat (i + 1) 1 := by
    unfold brk
    rw [show ((t.length : Int) - i).toNat = ((t.length : Int) - i - 1).toNat + 1 by omega]
    show (if p_lev 0 (tg t i) = 0 then i else brc t ((t.length : Int) - i - 1).toNat (i + 1) (p_lev 0 (tg t i))) = _
    rw [hc, show p_lev 0 123 = 1 from rfl, if_neg (by decide)]
  obtain ⟨S2, T2, F2, b1, b2⟩ := p_brl (N := N) (t := t) ((t.length : Int) - i - 1).toNat N (i + 1) 1 (m_s S 0 17 (i + 1)) T v V F (ht.ex (fun q j z => m_sk (by omega))) hs.at m_s_s (by omega) (by omega) (by omega) (by rw [m_sj (by decide)]; exact h18) (by rw [m_sj (by decide)]; exact h21) hf.at (by omega) (by omega)
  rw [← e, show ((((t.length : Int) - i - 1).toNat : Nat) : Int) = (t.length : Int) - i - 1 by omega] at b2
  exact ⟨S2, T2, F2, by rw [A_braced_e, h17, chk_e (by omega)]; exact b1, b2.from exW.at⟩
theorem qtc_ii {t : List Int} : ∀ (m : Nat) (i v : Int), (qtc t m i v).1 = 0 ∨ (i ≤ (qtc t m i v).2 ∧ (qtc t m i v).2 < i + m)
  | 0, i, v => Or.inl rfl
  | m + 1, i, v => by
    have e : qtc t (m + 1) i v = if v = 0 ∧ tg t i = 34 then (1, i) else if v = 0 ∧ tg t i = 125 then (2, i) else qtc t m (i + 1) (p_lev v (tg t i)) := rfl
    rw [e]
    split
    · exact Or.inr ⟨Int.le_refl _, by show i < i + ((m + 1 : Nat) : Int); omega⟩
    · split
      · exact Or.inr ⟨Int.le_refl _, by show i < i + ((m + 1 : Nat) : Int); omega⟩
      · rcases qtc_ii (t := t) m (i + 1) (p_lev v (tg t i)) with q | q
        · exact Or.inl q
        · exact Or.inr (by omega)
theorem lev_q {o c : Int} (h : 0 ≤ o) (hc : ¬ (o = 0 ∧ c = 125)) : o + (if c = 123 then (1 : Int) else (if c = 125 then ((-1) : Int) else 0)) = p_lev o c := by
  by_cases q : 1 ≤ o
  · exact lev_pos q
  · unfold p_lev
    by_cases q1 : c = 123
    · rw [if_pos q1, if_pos q1]
    · rw [if_neg q1, if_neg q1, if_neg (show ¬ c = 125 by omega), if_neg (by omega), Int.add_zero]
theorem oth_17 {S : s_M} : oth S 0 17 = S 0 17 := by
  unfold oth
  rw [m_sj (by decide), m_sj (by decide), m_sk (by decide)]
theorem oth_tx {S : s_M} {T : Int → List Int} (h : TX S T) : TX (oth S) T := h.ex (fun q j z => by
  unfold oth
  rw [m_sk (by omega), m_sk (by omega), m_sk (by omega)])
theorem p_qtl {N : Nat} {t : List Int} : ∀ (m n : Nat) (j o : Int) (S : s_M) (T : Int → List Int) (v : List Int) (V : Int → Int) (F : Int), TX S T → srx S t → S 0 17 = j → 0 ≤ j → j + m = (t.length : Int) → 0 ≤ o ∧ o ≤ j → S 0 18 = 0 → 0 ≤ S 0 21 ∧ S 0 21 < 1000 → fdk S T v (V 12) (V 13) F → F + 2 * m ≤ 1000000 → m + 1 < n → ∃ S' T' F', A_quoted_l12 N n o S = some (0, S') ∧ pcR S S' T T' (decide ((qtc t m j o).1 = 1)) (if (qtc t m j o).1 = 1 then (qtc t m j o).2 + 1 else (qtc t m j o).2) (apc t j (qtc t m j o).2 (v, V)) (F + 2 * m) F'
  | m, 0, j, o, S, T, v, V, F, ht, hs, h17, h0, h1, ho, h18, h21, hf, hF, hn => absurd hn (Nat.not_lt_zero _)
  | 0, n + 1, j, o, S, T, v, V, F, ht, hs, h17, h0, h1, ho, h18, h21, hf, hF, hn => by
    have hh := p_here (N := N) hs h17 h0
    have hout := hr_out (t := t) (i := j) (by omega)
    rw [hout.1] at hh
    have hoth := p_other (N := N) h18 (by omega)
    obtain ⟨n', en⟩ : ∃ n', n = n' + 1 := ⟨n - 1, by omega⟩
    have e1 : (qtc t 0 j o).1 = 0 := rfl
    have e2 : (qtc t 0 j o).2 = (t.length : Int) := rfl
    refine ⟨oth S, T, F, ?_, oth_tx ht, fun _ _ => rfl, ?_⟩
    · rw [A_quoted_l12_e, if_pos h18, bnd_e hh, if_neg (by decide), A_quoted_j32_e, bnd_e hh, if_pos (by decide), A_quoted_j51_e, bnd_e hoth, A_quoted_j97_e, en, A_quoted_l12_e, if_neg (by rw [show oth S 0 18 = 1 from m_s_s]; decide), A_quoted_j100_e, if_neg (by rw [show oth S 0 18 = 1 from m_s_s]; decide), A_quoted_j117_e]
    · rw [e1, if_neg (by decide), if_neg (by decide), e2]
      exact ⟨S, exW.refl S, by omega, rfl⟩
  | m + 1, n + 1, j, o, S, T, v, V, F, ht, hs, h17, h0, h1, ho, h18, h21, hf, hF, hn => by
    have hh := p_here (N := N) hs h17 h0
    have h320 := hs.2.1
    rw [hr_in (by omega)] at hh
    have hch := (hs.2.2 j h0 (by omega)).2
    have e : qtc t (m + 1) j o = if o = 0 ∧ tg t j = 34 then (1, j) else if o = 0 ∧ tg t j = 125 then (2, j) else qtc t m (j + 1) (p_lev o (tg t j)) := rfl
    obtain ⟨n', en⟩ : ∃ n', n = n' + 1 := ⟨n - 1, by omega⟩
    by_cases c1 : o = 0 ∧ tg t j = 34
    · rw [e, if_pos c1]
      refine ⟨m_s S 0 17 (j + 1), T, F, ?_, ht.ex (fun q j z => m_sk (by omega)), fun _ _ => rfl, ?_⟩
      · rw [A_quoted_l12_e, if_pos h18, bnd_e hh, if_pos c1.2, if_neg (by omega), A_quoted_j100_e, if_pos h18, h17, chk_e (by omega), A_quoted_j117_e]
      · rw [decide_eq_true (show ((1, j) : Int × Int).1 = 1 from rfl), if_pos rfl, if_pos (show ((1, j) : Int × Int).1 = 1 from rfl), apc_nil]
        exact ⟨exW.at, m_s_s, hf.at, by omega⟩
    · by_cases c2 : o = 0 ∧ tg t j = 125
      · have hoth := p_other (N := N) h18 (by omega)
        rw [e, if_neg c1, if_pos c2]
        refine ⟨oth S, T, F, ?_, oth_tx ht, fun _ _ => rfl, ?_⟩
        · rw [A_quoted_l12_e, if_pos h18, bnd_e hh, if_neg (by omega), A_quoted_j32_e, bnd_e hh, if_neg (by omega), if_pos c2.2, if_pos c2.1, A_quoted_j51_e, bnd_e hoth, A_quoted_j97_e, en, A_quoted_l12_e, if_neg (by rw [show oth S 0 18 = 1 from m_s_s]; decide), A_quoted_j100_e, if_neg (by rw [show oth S 0 18 = 1 from m_s_s]; decide), A_quoted_j117_e]
        · rw [decide_eq_false (show ¬ ((2, j) : Int × Int).1 = 1 from (by decide : ¬ (2 : Int) = 1)), if_neg (by decide), if_neg (show ¬ ((2, j) : Int × Int).1 = 1 from (by decide : ¬ (2 : Int) = 1))]
          exact ⟨S, exW.refl S, h17, rfl⟩
      · rw [e, if_neg c1, if_neg c2]
        have hl := lev_q ho.1 c2
        have hlr := p_lev_r (v := o) (c := tg t j) ho.1
        obtain ⟨S1, T1, F1, a1, a2, a3, a4, a5, a6, a7⟩ := p_feed (N := N) (c := tg t j) ht hf (by omega)
        have k17 : S1 0 17 = j := (a7 0 17 (by decide) (by decide) (by omega)).trans h17
        have k18 : S1 0 18 = 0 := (a7 0 18 (by decide) (by decide) (by omega)).trans h18
        have k21 : S1 0 21 = S 0 21 := a7 0 21 (by decide) (by decide) (by omega)
        have j58 : A_quoted_j58 N (A_quoted_l12 N n) o (tg t j) S = A_quoted_l12 N n (p_lev o (tg t j)) (m_s S1 0 17 (j + 1)) := by
          rw [A_quoted_j58_e, hl, chk_e (by omega), bnd_e a1, k17, chk_e (by omega), A_quoted_j97_e]
        have j32 : A_quoted_j32 N (A_quoted_l12 N n) o S = A_quoted_j58 N (A_quoted_l12 N n) o (tg t j) S := by
          rw [A_quoted_j32_e, bnd_e hh, if_neg (by omega)]
          by_cases w : tg t j = 125
          · rw [if_pos w, if_neg (by omega)]
          · rw [if_neg w]
        have st : A_quoted_l12 N (n + 1) o S = A_quoted_l12 N n (p_lev o (tg t j)) (m_s S1 0 17 (j + 1)) := by
          rw [A_quoted_l12_e, if_pos h18, bnd_e hh, j32, j58]
          by_cases w : tg t j = 34
          · rw [if_pos w, if_pos (by omega)]
          · rw [if_neg w]
        obtain ⟨S2, T2, F2, b1, b2, b3, b4⟩ := p_qtl (N := N) (t := t) m n (j + 1) (p_lev o (tg t j)) (m_s S1 0 17 (j + 1)) T1 (avv (tg t j) v (V 12)) (avV (tg t j) v V) F1 (a2.ex (fun q j z => m_sk (by omega))) ((hs.exw a7.exW).at) m_s_s (by omega) (by omega) (by omega) (by rw [m_sj (by decide)]; exact k18) (by rw [m_sj (by decide), k21]; exact h21) a4.at (by omega) (by omega)
        have xx : exW S (m_s S1 0 17 (j + 1)) := a7.exW.trans exW.at
        refine ⟨S2, T2, F2, st.trans b1, b2, fun q z => (b3 q z).trans (a3 q z), ?_⟩
        by_cases w : (qtc t m (j + 1) (p_lev o (tg t j))).1 = 1
        · rw [decide_eq_true w, if_pos rfl, if_pos w] at b4 ⊢
          have hii := qtc_ii (t := t) m (j + 1) (p_lev o (tg t j))
          rw [apc_step (show j < (qtc t m (j + 1) (p_lev o (tg t j))).2 by omega)]
          obtain ⟨d1, d2, d3, d4⟩ := b4
          exact ⟨xx.trans d1, d2, d3, by omega⟩
        · rw [decide_eq_false w, if_neg (by decide), if_neg w] at b4 ⊢
          obtain ⟨S3, d1, d2, d3⟩ := b4
          exact ⟨S3, xx.trans d1, d2, d3⟩
theorem p_quoted {N : Nat} (hN : 1000 ≤ N) {S : s_M} {T : Int → List Int} {t v : List Int} {V : Int → Int} {F i : Int} (ht : TX S T) (hs : srx S t) (h17 : S 0 17 = i) (h0 : 0 ≤ i ∧ i < (t.length : Int)) (h18 : S 0 18 = 0) (h21 : 0 ≤ S 0 21 ∧ S 0 21 < 1000) (hf : fdk S T v (V 12) (V 13) F) (hF : F ≤ 900000) : ∃ S' T' F', A_quoted N S = some (0, S') ∧ pcR S S' T T' (decide ((qtk t i).1 = 1)) (if (qtk t i).1 = 1 then (qtk t i).2 + 1 else (qtk t i).2) (apc t (i + 1) (qtk t i).2 (v, V)) (F + 2 * ((t.length : Int) - i - 1)) F' := by
  have h320 := hs.2.1
  have e : qtk t i = qtc t ((t.length : Int) - (i + 1)).toNat (i + 1) 0 := rfl
  obtain ⟨S2, T2, F2, b1, b2⟩ := p_qtl (N := N) (t := t) ((t.length : Int) - (i + 1)).toNat N (i + 1) 0 (m_s S 0 17 (i + 1)) T v V F (ht.ex (fun q j z => m_sk (by omega))) hs.at m_s_s (by omega) (by omega) (by omega) (by rw [m_sj (by decide)]; exact h18) (by rw [m_sj (by decide)]; exact h21) hf.at (by omega) (by omega)
  rw [← e, show ((((t.length : Int) - (i + 1)).toNat : Nat) : Int) = (t.length : Int) - i - 1 by omega] at b2
  exact ⟨S2, T2, F2, by rw [A_quoted_e, h17, chk_e (by omega)]; exact b1, b2.from exW.at⟩
