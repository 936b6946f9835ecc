theorem m_s_self {S : s_M} {q j x : Int} (h : S q j = x) : m_s S q j x = S := by
  funext a b
  by_cases c : a = q ∧ b = j
  · rw [c.1, c.2, m_s_s, h]
  · rw [m_s_n c]
theorem m_s_twice {S : s_M} {q j x y : Int} : m_s (m_s S q j x) q j y = m_s S q j y := by
  funext a b
  by_cases c : a = q ∧ b = j
  · rw [c.1, c.2, m_s_s, m_s_s]
  · rw [m_s_n c, m_s_n c, m_s_n c]
/-- the character at i, or -1 behind the text -/
def hr (t : List Int) (i : Int) : Int := if i < (t.length : Int) then tg t i else -1
theorem p_here {N : Nat} {S : s_M} {t : List Int} (h : srx S t) {i : Int} (hi : S 0 17 = i) (h0 : 0 ≤ i) : A_here N S = some (hr t i, S) := by
  obtain ⟨s1, s2, s3⟩ := h
  unfold hr
  rw [A_here_e, hi, s1]
  by_cases c : i < (t.length : Int)
  · rw [if_pos c, if_pos c, chk_e (by omega), A_here_j24_e, (s3 i h0 c).1]
  · rw [if_neg c, if_neg c, A_here_j24_e]
theorem hr_in {t : List Int} {i : Int} (h : i < (t.length : Int)) : hr t i = tg t i := if_pos h
theorem hr_out {t : List Int} {i : Int} (h : ¬ i < (t.length : Int)) : hr t i = -1 ∧ tg t i = 0 := ⟨if_neg h, tg_out (by omega)⟩
theorem hr_eq {t : List Int} {i c : Int} (hc : 0 < c) : hr t i = c ↔ tg t i = c := by
  by_cases h : i < (t.length : Int)
  · rw [hr_in h]
  · have := hr_out h
    omega
theorem srx.at {S : s_M} {t : List Int} (h : srx S t) {x : Int} : srx (m_s S 0 17 x) t := h.ex (fun q j z => m_s_n (by omega))
theorem p_blkl {N : Nat} {t : List Int} : ∀ (m n : Nat) (i : Int) (S : s_M), srx S t → S 0 17 = i → 0 ≤ i → i + m = (t.length : Int) → m < n → A_blanks_l0 N n S = some (0, m_s S 0 17 (pbl t m i))
  | m, 0, i, S, h, hi, h0, h1, h2 => absurd h2 (Nat.not_lt_zero _)
  | 0, n + 1, i, S, h, hi, h0, h1, h2 => by
    have hh := p_here (N := N) h hi h0
    have ho := hr_out (t := t) (i := i) (by omega)
    rw [ho.1] at hh
    rw [A_blanks_l0_e, bnd_e hh, if_neg (by decide), bnd_e hh, if_neg (by decide)]
    show some (0, S) = some (0, m_s S 0 17 i)
    rw [m_s_self hi]
  | m + 1, n + 1, i, S, h, hi, h0, h1, h2 => by
    have hh := p_here (N := N) h hi h0
    have h320 := h.2.1
    rw [hr_in (by omega)] at hh
    have e : pbl t (m + 1) i = if p_bl (tg t i) = true then pbl t m (i + 1) else i := rfl
    have go : A_blanks_j18 N (A_blanks_l0 N n) S = some (0, m_s S 0 17 (pbl t m (i + 1))) := by
      rw [A_blanks_j18_e, hi, chk_e (by omega), p_blkl m n (i + 1) (m_s S 0 17 (i + 1)) h.at m_s_s (by omega) (by omega) (by omega), m_s_twice]
    rw [A_blanks_l0_e, bnd_e hh, bnd_e hh, e]
    by_cases c1 : tg t i = 32
    · rw [if_pos c1, if_pos (show p_bl (tg t i) = true from decide_eq_true (Or.inl c1)), go]
    · rw [if_neg c1]
      by_cases c2 : tg t i = 10
      · rw [if_pos c2, if_pos (show p_bl (tg t i) = true from decide_eq_true (Or.inr c2)), go]
      · rw [if_neg c2, if_neg (show ¬ p_bl (tg t i) = true from fun z => by
          rcases of_decide_eq_true z with y | y
          · exact c1 y
          · exact c2 y), m_s_self hi]
theorem pbl_in {t : List Int} : ∀ (m : Nat) (i : Int), i ≤ pbl t m i ∧ pbl t m i ≤ i + m
  | 0, i => ⟨Int.le_refl _, by show i ≤ i + ((0 : Nat) : Int); omega⟩
  | m + 1, i => by
    have := pbl_in (t := t) m (i + 1)
    show i ≤ (if p_bl (tg t i) = true then pbl t m (i + 1) else i) ∧ (if p_bl (tg t i) = true then pbl t m (i + 1) else i) ≤ i + ((m + 1 : Nat) : Int)
    split <;> omega
theorem pb_in {t : List Int} {i : Int} (h : i ≤ (t.length : Int)) : i ≤ pb t i ∧ pb t i ≤ (t.length : Int) := by
  have := pbl_in (t := t) ((t.length : Int) - i).toNat i
  unfold pb
  omega
theorem p_blanks {N : Nat} (hN : 1000 ≤ N) {S : s_M} {t : List Int} (h : srx S t) {i : Int} (hi : S 0 17 = i) (h0 : 0 ≤ i ∧ i ≤ (t.length : Int)) : A_blanks N S = some (0, m_s S 0 17 (pb t i)) := by
  have := h.2.1
  rw [A_blanks_e]
  exact p_blkl _ _ i S h hi h0.1 (by omega) (by omega)
/-- something else stands there -/
def oth (S : s_M) : s_M := m_s (m_s (m_s S 1 1 (wi32 (S 1 1 + 1))) 0 21 (S 0 21 + 1)) 0 18 1
theorem p_other {N : Nat} {S : s_M} (h : S 0 18 = 0) (h21 : 0 ≤ S 0 21 ∧ S 0 21 < 1000000) : A_other N S = some (0, oth S) := by
  rw [A_other_e, if_pos h, bnd_e (p_warn (by decide)), m_sk (by decide), chk_e (by omega), A_other_j22_e]
  rfl
theorem p_expect {N : Nat} (hN : 1000 ≤ N) {S : s_M} {t : List Int} (h : srx S t) {i c : Int} (hc : 0 < c) (hi : S 0 17 = i) (h0 : 0 ≤ i ∧ i ≤ (t.length : Int)) (h18 : S 0 18 = 0) (h21 : 0 ≤ S 0 21 ∧ S 0 21 < 1000000) : A_expect N c S = some (0, if (tsk t c i).1 = true then m_s S 0 17 (tsk t c i).2 else oth (m_s S 0 17 (tsk t c i).2)) := by
  have hb := p_blanks (N := N) hN h hi h0
  have hr0 := pb_in (t := t) h0.2
  have h320 := h.2.1
  have hh := p_here (N := N) (h.at (x := pb t i)) m_s_s (by omega)
  rw [A_expect_e, if_pos h18, bnd_e hb, bnd_e hh]
  unfold tsk
  by_cases q : tg t (pb t i) = c
  · rw [if_pos ((hr_eq hc).mpr q), if_pos q, if_pos rfl, m_s_s, chk_e (by omega), A_expect_j37_e, m_s_twice]
  · rw [if_neg (fun z => q ((hr_eq hc).mp z)), if_neg q, if_neg (show ¬ (false, pb t i).1 = true from Bool.noConfusion), bnd_e (p_other (by rw [m_sj (by decide)]; exact h18) (by rw [m_sj (by decide)]; exact h21)), A_expect_j37_e]
theorem wc_hr {t : List Int} {i : Int} : p_wc (hr t i) = p_wc (tg t i) := by
  by_cases h : i < (t.length : Int)
  · rw [hr_in h]
  · have := hr_out h
    rw [this.1, this.2]
    rfl
theorem wc_in {S : s_M} {t : List Int} (h : srx S t) {i : Int} (h0 : 0 ≤ i) (hw : p_wc (tg t i) = true) : i < (t.length : Int) ∧ 32 ≤ tg t i ∧ tg t i ≤ 126 := by
  by_cases c : i < (t.length : Int)
  · refine ⟨c, ?_⟩
    rcases (h.2.2 i h0 c).2 with q | q
    · rw [q] at hw
      exact absurd hw (by decide)
    · exact q
  · rw [(hr_out c).2] at hw
    exact absurd hw (by decide)
theorem p_wordl {N : Nat} {t : List Int} : ∀ (m n : Nat) (k i v : Int) (S : s_M), srx S t → S 0 17 = i → 0 ≤ i ∧ i ≤ (t.length : Int) → 0 ≤ k → k + m = 8 → 0 ≤ v ∧ 2 * v < pow8 k → (k = 0 ↔ v = 0) → m < n → ∃ kk : Int, A_word_l17 N n v k S = A_word_j65 N (tkr t m k i v).1 kk (m_s S 0 17 (tkr t m k i v).2) ∧ (kk = 0 ↔ (tkr t m k i v).1 = 0) ∧ (i ≤ (tkr t m k i v).2 ∧ (tkr t m k i v).2 ≤ (t.length : Int))
  | m, 0, k, i, v, S, h, hi, h0, hk, hm, hv, hz, hn => absurd hn (Nat.not_lt_zero _)
  | 0, n + 1, k, i, v, S, h, hi, h0, hk, hm, hv, hz, hn => by
    refine ⟨k, ?_, hz, ⟨Int.le_refl _, h0.2⟩⟩
    rw [A_word_l17_e, if_neg (by omega)]
    show A_word_j65 N v k S = A_word_j65 N v k (m_s S 0 17 i)
    rw [m_s_self hi]
  | m + 1, n + 1, k, i, v, S, h, hi, h0, hk, hm, hv, hz, hn => by
    have hh := p_here (N := N) h hi h0.1
    have h320 := h.2.1
    have e : tkr t (m + 1) k i v = if p_wc (tg t i) = true then tkr t m (k + 1) (i + 1) (v + p_low (tg t i) * pow8 k) else (v, i) := rfl
    rw [A_word_l17_e, if_pos (by omega), bnd_e hh, bnd_e hh, wc_hr, e]
    by_cases c : p_wc (tg t i) = true
    · obtain ⟨w1, w2⟩ := wc_in h h0.1 c
      have hl := p_prn_low (show p_prn (tg t i) = true from decide_eq_true w2)
      have hp8 := pow8_pos k
      have hmul : 0 < p_low (tg t i) * pow8 k := Int.mul_pos (by omega) hp8
      rw [if_pos c, if_pos c, hr_in w1, chk_e (by omega), chk_e (by omega), hi, chk_e (by omega), l_orrs hv (by omega) (by omega)]
      obtain ⟨kk, b1, b2, b3⟩ := p_wordl (N := N) (t := t) m n (k + 1) (i + 1) (v + p_low (tg t i) * pow8 k) (m_s S 0 17 (i + 1)) h.at m_s_s (by omega) (by omega) (by omega) (pw_half hv (by omega) hk) (by omega) (by omega)
      rw [m_s_twice] at b1
      exact ⟨kk, b1, b2, by omega⟩
    · rw [if_neg c, if_neg c]
      refine ⟨k, ?_, hz, ⟨Int.le_refl _, h0.2⟩⟩
      show A_word_j65 N v k S = A_word_j65 N v k (m_s S 0 17 i)
      rw [m_s_self hi]
theorem p_wordR {N : Nat} (hN : 1000 ≤ N) {S : s_M} {t : List Int} (h : srx S t) {i : Int} (hi : S 0 17 = i) (h0 : 0 ≤ i ∧ i ≤ (t.length : Int)) (h18 : S 0 18 = 0) (h21 : 0 ≤ S 0 21 ∧ S 0 21 < 1000000) : A_word N S = some ((tkw t i).1, if (tkw t i).1 = 0 then oth (m_s S 0 17 (tkw t i).2) else m_s S 0 17 (tkw t i).2) ∧ (i ≤ (tkw t i).2 ∧ (tkw t i).2 ≤ (t.length : Int)) := by
  have hb := p_blanks (N := N) hN h hi h0
  have hr0 := pb_in (t := t) h0.2
  obtain ⟨kk, b1, b2, b3⟩ := p_wordl (N := N) (t := t) 8 N 0 (pb t i) 0 (m_s S 0 17 (pb t i)) h.at m_s_s (by omega) (by omega) (by omega) (by decide) (by omega) (by omega)
  rw [m_s_twice] at b1
  have e : tkr t 8 0 (pb t i) 0 = tkw t i := rfl
  rw [e] at b1 b2 b3
  refine ⟨?_, by omega⟩
  rw [A_word_e, if_pos h18, bnd_e hb, b1, A_word_j65_e]
  by_cases q : (tkw t i).1 = 0
  · rw [if_pos (b2.mpr q), if_pos q, bnd_e (p_other (by rw [m_sj (by decide)]; exact h18) (by rw [m_sj (by decide)]; exact h21)), A_word_j73_e]
  · rw [if_neg (fun z => q (b2.mp z)), if_neg q, A_word_j73_e]
/-- the value as it is fed: blank waits, too long, how many were fed -/
def fdk (S : s_M) (T : Int → List Int) (v : List Int) (bw tl F : Int) : Prop := T 82 = v ∧ S 0 19 = (if bw ≠ 0 ∧ 0 < v.length then 1 else 0) ∧ S 0 20 = F ∧ 0 ≤ F ∧ (v.length : Int) = min F 60 ∧ (tl ≠ 0 ↔ 60 < F)
def exV (S S' : s_M) : Prop := ∀ q j : Int, q ≠ 3 → q ≠ 4 → ¬ (q = 0 ∧ (j = 19 ∨ j = 20)) → S' q j = S q j
theorem exV.refl (S : s_M) : exV S S := fun _ _ _ _ _ => rfl
theorem exV.trans {A B C : s_M} (h1 : exV A B) (h2 : exV B C) : exV A C := fun q j a b c => (h2 q j a b c).trans (h1 q j a b c)
theorem ta_min {v : List Int} {c F : Int} (h : (v.length : Int) = min F 60) (h0 : 0 ≤ F) : ((ta 60 v c).length : Int) = min (F + 1) 60 := by
  unfold ta
  split
  · rw [List.length_append]
    show ((v.length + 1 : Nat) : Int) = _
    omega
  · omega
theorem p_feed {N : Nat} {S : s_M} {T : Int → List Int} {v : List Int} {V : Int → Int} {F c : Int} (ht : TX S T) (h : fdk S T v (V 12) (V 13) F) (hF : F ≤ 1000000) : ∃ S' T' F', A_feed N c S = some (0, S') ∧ TX S' T' ∧ (∀ q : Int, q ≠ 82 → T' q = T q) ∧ fdk S' T' (avv c v (V 12)) (avV c v V 12) (avV c v V 13) F' ∧ F ≤ F' ∧ F' ≤ F + 2 ∧ exV S S' := by
  obtain ⟨h1, h2, h3, h4, h5, h6⟩ := h
  by_cases cb : c = 32 ∨ c = 10
  · have hb : p_bl c = true := decide_eq_true cb
    have hv : avv c v (V 12) = v := if_pos hb
    have hV : avV c v V = rset V 12 1 := if_pos hb
    have st : A_feed N c S = some (0, m_s S 0 19 (if 0 < (S 0 20) then (1 : Int) else 0)) := by
      rw [A_feed_e, A_feed_j12_e]
      by_cases q : c = 32
      · rw [if_pos q]
      · rw [if_neg q, if_pos (by omega)]
    refine ⟨_, T, F, st, ht.ex (fun q j z => m_sk (by omega)), fun _ _ => rfl, ?_, Int.le_refl _, by omega, fun q j a b z => m_s_n (by omega)⟩
    rw [hv, hV, rset_at, rset_ne (by decide), h3]
    refine ⟨h1, ?_, (m_sj (by decide)).trans h3, h4, h5, h6⟩
    rw [m_s_s]
    by_cases q : 0 < F
    · rw [if_pos q, if_pos ⟨by decide, by omega⟩]
    · rw [if_neg q, if_neg (fun z => by have := z.2; omega)]
  · have hb : ¬ p_bl c = true := fun z => cb (of_decide_eq_true z)
    have hv : avv c v (V 12) = ta 60 (av1 v (V 12)) c := if_neg hb
    have hV : avV c v V = rset (rset V 12 0) 13 (if V 13 ≠ 0 ∨ 60 ≤ (av1 v (V 12)).length then 1 else 0) := if_neg hb
    have e12 : avV c v V 12 = 0 := by rw [hV, rset_ne (by decide), rset_at]
    have e13 : avV c v V 13 = if V 13 ≠ 0 ∨ 60 ≤ (av1 v (V 12)).length then 1 else 0 := by rw [hV, rset_at]
    -- the character itself, from a state with u and G
    have last : ∀ (S1 : s_M) (T1 : Int → List Int) (u : List Int) (G : Int), TX S1 T1 → T1 82 = u → S1 0 20 = G → 0 ≤ G → G ≤ 1000002 → (u.length : Int) = min G 60 → ∃ S' T', A_feed_j54 N c S1 = some (0, S') ∧ TX S' T' ∧ (∀ q : Int, q ≠ 82 → T' q = T1 q) ∧ T' 82 = ta 60 u c ∧ S' 0 19 = 0 ∧ S' 0 20 = G + 1 ∧ exV S1 S' := fun S1 T1 u G g1 g2 g3 g4 g5 g6 => by
      have g1' : TX (m_s S1 0 19 0) T1 := g1.ex (fun q j z => m_sk (by omega))
      obtain ⟨S2, a1, a2, a3⟩ := p_add (N := N) g1' (t := 82) (c := c) (by decide)
      have k20 : S2 0 20 = G := (a3 0 20 (by decide) (by decide)).trans ((m_sj (by decide)).trans g3)
      refine ⟨m_s S2 0 20 (G + 1), _, ?_, a2.ex (fun q j z => m_sk (by omega)), fun q z => lset_ne z, by rw [lset_at, g2], ?_, m_s_s, fun q j a b z => ?_⟩
      · rw [A_feed_j54_e, bnd_e a1, k20, chk_e (by omega)]
      · rw [m_sj (by decide), a3 0 19 (by decide) (by decide), m_s_s]
      · rw [m_s_n (by omega), a3 q j a b, m_s_n (by omega)]
    by_cases q : V 12 ≠ 0 ∧ 0 < v.length
    · have ha : av1 v (V 12) = ta 60 v 32 := if_pos q
      rw [if_pos q] at h2
      obtain ⟨S1, a1, a2, a3⟩ := p_add (N := N) ht (t := 82) (c := 32) (by decide)
      have hmin := ta_min (c := 32) h5 h4
      obtain ⟨S2, T2, b1, b2, b3, b4, b5, b6, b7⟩ := last (m_s S1 0 20 (F + 1)) _ (ta 60 v 32) (F + 1) (a2.ex (fun q j z => m_sk (by omega))) (by rw [lset_at, h1]) m_s_s (by omega) (by omega) hmin
      refine ⟨S2, T2, F + 2, ?_, b2, fun q z => (b3 q z).trans (lset_ne z), ?_, by omega, by omega, fun q j a b z => (b7 q j a b z).trans ((m_s_n (by omega)).trans (a3 q j a b))⟩
      · rw [A_feed_e, if_neg (by omega), if_neg (by omega), if_neg (by omega), bnd_e a1, a3 0 20 (by decide) (by decide), h3, chk_e (by omega)]
        exact b1
      · rw [hv, e12, e13, ha]
        refine ⟨b4, by rw [b5, if_neg (fun z => z.1 rfl)], by rw [b6]; omega, by omega, by rw [ta_min hmin (by omega)]; omega, ?_⟩
        by_cases w : V 13 ≠ 0 ∨ 60 ≤ (ta 60 v 32).length
        · rw [if_pos w]
          refine ⟨fun _ => ?_, fun _ => by decide⟩
          rcases w with w | w
          · have := h6.mp w
            omega
          · omega
        · rw [if_neg w]
          refine ⟨fun z => absurd rfl z, fun z => absurd (Or.inr ?_) w⟩
          omega
    · have ha : av1 v (V 12) = v := if_neg q
      rw [if_neg q] at h2
      obtain ⟨S2, T2, b1, b2, b3, b4, b5, b6, b7⟩ := last S T v F ht h1 h3 h4 (by omega) h5
      refine ⟨S2, T2, F + 1, ?_, b2, b3, ?_, by omega, by omega, b7⟩
      · rw [A_feed_e, if_neg (by omega), if_neg (by omega), if_pos h2]
        exact b1
      · rw [hv, e12, e13, ha]
        refine ⟨b4, by rw [b5, if_neg (fun z => z.1 rfl)], b6, by omega, ta_min h5 h4, ?_⟩
        by_cases w : V 13 ≠ 0 ∨ 60 ≤ v.length
        · rw [if_pos w]
          refine ⟨fun _ => ?_, fun _ => by decide⟩
          rcases w with w | w
          · have := h6.mp w
            omega
          · omega
        · rw [if_neg w]
          refine ⟨fun z => absurd rfl z, fun z => absurd (Or.inr ?_) w⟩
          omega
