theorem p_l102 {N : Nat} (hN : 100 ≤ N) {k88 : Int → Int → Int → s_M → rO} {S : s_M} {T : Int → List Int} {E0 : Int → sen} {ns nc : Int} {WC : Int → Int} {st : lst} {mn ce e : Int} (hB : lsB S T E0 ns nc WC) (hI : lsI S ns E0 st) (hce : 0 ≤ ce ∧ ce ≤ st.1) (he : 0 ≤ e ∧ e < ns) : ∀ (m n : Nat) (k c : Int), 0 ≤ k → k + m = ce → 0 ≤ c ∧ c ≤ k → m < n → A_list_l102 N k88 n mn ce e c k S = (if it (rfs st.2.2.2 st.2.1 (kE E0 e)) m k c < mn then (A_list_j179 N k88 mn ce e S) else (bnd (A_isListed N e S) fun v22 S23 => if v22 = 0 then (chk (0 ≤ (S23 0 15) ∧ (S23 0 15) < 8) <| chk (rI ((S23 0 15) + 1)) <| A_list_j179 N k88 mn ce e (m_s (m_s S23 11 (S23 0 15) e) 0 15 ((S23 0 15) + 1))) else (A_list_j179 N k88 mn ce e S23)))
  | m, 0, k, c, h0, h1, h2, h3 => absurd h3 (Nat.not_lt_zero _)
  | 0, n + 1, k, c, h0, h1, h2, h3 => by
    rw [A_list_l102_e, if_neg (by omega)]
    rfl
  | m + 1, n + 1, k, c, h0, h1, h2, h3 => by
    have hns := hB.2.1.len
    have hle := hI.le hns.1
    obtain ⟨l1, l2, l3⟩ := hI.2.2.1 k h0 (by omega)
    have hen := hB.2.1.2.2.1 _ l2.1 l2.2
    have hee := hB.2.1.2.2.1 e he.1 he.2
    have hr := p_refers (N := N) hN hB.1 (e := st.2.1 k) (by omega) hen
    have hk : S 5 e = kE E0 e := hee.1
    have hw : wdk (kE E0 e) := hee.2.2.2.2.2.2.2.1
    have hiff := rf_iff hen hw
    have hsim := (hI.2.2.2.2.2 (st.2.1 k)).1
    have es : rfs st.2.2.2 st.2.1 (kE E0 e) k c = c + (if rfR (E0 (st.2.1 k)) = kE E0 e then (1 : Int) else 0) := by
      unfold rfs
      rw [hsim]
      by_cases q : rfR (E0 (st.2.1 k)) = kE E0 e
      · rw [if_pos q, if_pos (hiff.mp q)]
      · rw [if_neg q, if_neg (fun z => q (hiff.mpr z)), Int.add_zero]
    rw [A_list_l102_e, if_pos (by omega), chk_e (by omega), l1, bnd_e hr, chk_e (by omega), hk, ← es, chk_e (by unfold rfs; split <;> omega), chk_e (by omega)]
    exact p_l102 hN hB hI hce he m n (k + 1) _ (by omega) (by omega) (by unfold rfs; split <;> omega) (by omega)
/-- the second half: who is listed beside the cited -/
def ct2 (E0 : Int → sen) (WC : Int → Int) (ns nc ce e : Int) (st : lst) : Prop := (0 ≤ ce ∧ ce ≤ st.1) ∧ (∀ i : Int, 0 ≤ i → i < ce → ∃ k : Int, (0 ≤ k ∧ k < nc) ∧ kE E0 (st.2.1 i) = WC k) ∧ (∀ k e : Int, 0 ≤ k → k < nc → 0 ≤ e → e < ns → kE E0 e = WC k → ∃ i : Int, (0 ≤ i ∧ i < st.1) ∧ st.2.1 i = e) ∧ ∀ i : Int, ce ≤ i → i < st.1 → st.2.1 i < e
theorem p_ls2 {N : Nat} (hN : 100 ≤ N) {T : Int → List Int} {E0 : Int → sen} {ns nc : Int} {WC : Int → Int} {mn ce : Int} : ∀ (mm n : Nat) (e : Int) (S : s_M) (st : lst), lsB S T E0 ns nc WC → lsI S ns E0 st → ct2 E0 WC ns nc ce e st → 0 ≤ e → e + mm = ns → mm < n → ∃ S', A_list_l88 N n mn ce e S = A_list_l187 N N 0 S' ∧ lsI S' ns E0 (it (mlb WC nc mn ce) mm e st) ∧ exL S S'
  | mm, 0, e, S, st, hB, hI, hc, h0, h1, h2 => absurd h2 (Nat.not_lt_zero _)
  | 0, n + 1, e, S, st, hB, hI, hc, h0, h1, h2 => by
    have h6 := hB.2.1.1
    exact ⟨S, by rw [A_list_l88_e, if_neg (by omega)], hI, exL.refl S⟩
  | mm + 1, n + 1, e, S, st, hB, hI, hc, h0, h1, h2 => by
    have h6 := hB.2.1.1
    have hns := hB.2.1.len
    have hle := hI.le hns.1
    obtain ⟨x1, x2, x3, x4⟩ := hB.2.2
    obtain ⟨c1, c2, c3, c4⟩ := hc
    have hk := hI.2.2.2.2.2.key
    have hs := p_l102 (N := N) hN (k88 := A_list_l88 N n) (mn := mn) (ce := ce) hB hI c1 (e := e) (by omega) (ce - 0).toNat N 0 0 (by omega) (by omega) (by omega) (by omega)
    have hil := p_isl (N := N) (e := e) hI.1 ⟨hI.2.1, by omega⟩ (fun i i0 i1 => (hI.2.2.1 i i0 i1).1) (st.1 - 0).toNat N 0 false (by omega) (by have := hI.2.1; omega) (by omega)
    have hil2 : A_isListed N e S = some (s_b (decide (0 ≤ fx st.2.1 st.1 e)), S) := by
      rw [A_isListed_e]
      rw [Bool.false_or] at hil
      exact hil
    have lic : 0 ≤ fx st.2.1 st.1 e ↔ 0 ≤ fx WC nc (kE E0 e) := by
      constructor
      · intro z
        rcases fx_rng (W := st.2.1) (n := st.1) (w := e) hI.2.1 with y | y
        · omega
        · by_cases w : fx st.2.1 st.1 e < ce
          · obtain ⟨k, k1, k2⟩ := c2 _ y.1 w
            rw [y.2.2] at k2
            exact fx_yes k1 k2.symm
          · have := c4 _ (by omega) y.2.1
            omega
      · intro z
        rcases fx_rng (W := WC) (n := nc) (w := kE E0 e) x2.1 with y | y
        · omega
        · obtain ⟨i, i1, i2⟩ := c3 _ e y.1 y.2.1 h0 (by omega) y.2.2.symm
          exact fx_yes i1 i2
    have ez : mlb WC nc mn ce e st = if 0 ≤ fx WC nc (kE E0 e) then st else if rfc st.2.2.2 st.2.1 (kE E0 e) ce < mn then st else lal e st := by
      unfold mlb
      rw [hk]
    have keep : ∃ S', A_list_j179 N (A_list_l88 N n) mn ce e S = A_list_l187 N N 0 S' ∧ lsI S' ns E0 (it (mlb WC nc mn ce) mm (e + 1) st) ∧ exL S S' := by
      obtain ⟨S2, b1, b2, b3⟩ := p_ls2 (mn := mn) hN mm n (e + 1) S st hB hI ⟨c1, c2, c3, fun i i0 i1 => by have := c4 i i0 i1; omega⟩ (by omega) (by omega) (by omega)
      exact ⟨S2, by rw [A_list_j179_e, chk_e (by omega)]; exact b1, b2, b3⟩
    show ∃ S', A_list_l88 N (n + 1) mn ce e S = A_list_l187 N N 0 S' ∧ lsI S' ns E0 (it (mlb WC nc mn ce) mm (e + 1) (mlb WC nc mn ce e st)) ∧ exL S S'
    rw [A_list_l88_e, if_pos (by omega), hs, ez]
    have er : it (rfs st.2.2.2 st.2.1 (kE E0 e)) (ce - 0).toNat 0 0 = rfc st.2.2.2 st.2.1 (kE E0 e) ce := rfl
    rw [er]
    by_cases q1 : rfc st.2.2.2 st.2.1 (kE E0 e) ce < mn
    · rw [if_pos q1, if_pos q1]
      have e2 : (if 0 ≤ fx WC nc (kE E0 e) then st else st) = st := by split <;> rfl
      rw [e2]
      exact keep
    · rw [if_neg q1, if_neg q1, bnd_e hil2]
      by_cases q2 : 0 ≤ fx WC nc (kE E0 e)
      · rw [if_pos q2, decide_eq_true (lic.mpr q2), if_neg (by decide)]
        exact keep
      · have q3 : ¬ 0 ≤ fx st.2.1 st.1 e := fun z => q2 (lic.mp z)
        rw [if_neg q2, decide_eq_false q3, if_pos (by decide), hI.1]
        have hne := fi_neg (W := st.2.1) (w := e) (st.1 - 0).toNat 0 (by omega) q3
        obtain ⟨l1, l2, l3⟩ := hI.add hns (e := e) ⟨h0, by omega⟩ (fun i i0 i1 => hne i i0 (by omega))
        have hx : exL S (m_s (m_s S 11 st.1 e) 0 15 (st.1 + 1)) := fun q j z y w => by rw [m_s_n w, m_sk y]
        have hc' : ct2 E0 WC ns nc ce (e + 1) (lal e st) := by
          rw [l2]
          refine ⟨by show 0 ≤ ce ∧ ce ≤ st.1 + 1; omega, fun i i0 i1 => ?_, fun k e' k0 k1 e0 e1 hke => ?_, fun i i0 i1 => ?_⟩
          · show ∃ k : Int, (0 ≤ k ∧ k < nc) ∧ kE E0 (rset st.2.1 st.1 e i) = WC k
            rw [rset_ne (by omega)]
            exact c2 i i0 i1
          · obtain ⟨i, i1, i2⟩ := c3 k e' k0 k1 e0 e1 hke
            exact ⟨i, by show 0 ≤ i ∧ i < st.1 + 1; omega, by show rset st.2.1 st.1 e i = e'; rw [rset_ne (by omega)]; exact i2⟩
          · have i1 : i < st.1 + 1 := i1
            show rset st.2.1 st.1 e i < e + 1
            by_cases z : i = st.1
            · rw [z, rset_at]
              omega
            · rw [rset_ne z]
              have := c4 i i0 (by omega)
              omega
        obtain ⟨S2, b1, b2, b3⟩ := p_ls2 (mn := mn) hN mm n (e + 1) _ (lal e st) (hB.ex hx) l3 hc' (by omega) (by omega) (by omega)
        have := hI.2.1
        exact ⟨S2, by rw [chk_e (by omega), chk_e (by omega), A_list_j179_e, chk_e (by omega)]; exact b1, b2, hx.trans b3⟩
theorem p_ls3 {N : Nat} : ∀ (mm n : Nat) (k : Int) (S : s_M) (T : Int → List Int), TX S T → 0 ≤ k → k + mm = 8 → mm < n → ∃ S' T', A_list_l187 N n k S = some (S 0 15, S') ∧ TX S' T' ∧ (∀ q : Int, (q < 62 + k ∨ 70 ≤ q) → T' q = T q) ∧ (∀ j : Int, k ≤ j → j < 8 → T' (62 + j) = []) ∧ exT S S'
  | mm, 0, k, S, T, ht, h0, h1, h2 => absurd h2 (Nat.not_lt_zero _)
  | 0, n + 1, k, S, T, ht, h0, h1, h2 => ⟨S, T, by rw [A_list_l187_e, if_neg (by omega)], ht, fun _ _ => rfl, fun j j0 j1 => absurd j1 (by omega), exT.refl S⟩
  | mm + 1, n + 1, k, S, T, ht, h0, h1, h2 => by
    have hc := ht.clear (t := 62 + k)
    obtain ⟨S2, T2, b1, b2, b3, b4, b5⟩ := p_ls3 (N := N) mm n (k + 1) _ _ hc.1 (by omega) (by omega) (by omega)
    refine ⟨S2, T2, ?_, b2, fun q z => (b3 q (by omega)).trans (lset_ne (by omega)), fun j j0 j1 => ?_, hc.2.trans b5⟩
    · rw [A_list_l187_e, if_pos (by omega), chk_e (by omega), bnd_e (p_clear (by omega)), chk_e (by omega), b1, m_sk (by decide)]
    · by_cases z : j = k
      · rw [z, b3 _ (by omega), lset_at]
      · exact b4 j (by omega) j1
theorem o_list {N : Nat} (hN : 100 ≤ N) {S : s_M} {T : Int → List Int} {s : rnT} {ns : Int} {O Q Z : Int → Int} {t : List Int} {nc m : Int} {WC L : Int → Int} (h : cpl S T s ns O Q Z t nc m WC L) {i : Int} : oks (A_list N i S) (lsk i) (mkl WC nc ns i (0, L, s.1.1, s.2.1.2)).1 (fun S' T' => if lsk i = 0 then cpl S' T' (((mkl WC nc ns i (0, L, s.1.1, s.2.1.2)).2.2.1, s.1.2), (s.2.1.1, (mkl WC nc ns i (0, L, s.1.1, s.2.1.2)).2.2.2), s.2.2) ns O Q Z t nc (mkl WC nc ns i (0, L, s.1.1, s.2.1.2)).1 WC (mkl WC nc ns i (0, L, s.1.1, s.2.1.2)).2.1 else cpl S' T' s ns O Q Z t nc m WC L) := by
  unfold lsk
  by_cases c : i < 1
  · rw [if_pos c]
    refine ⟨0, m_s S 0 0 1, T, ?_, m_s_s, fun z => absurd z (by decide), ?_⟩
    · rw [A_list_e, if_pos c, bnd_e (A_fail_e N 1 _), m_s_two]
    · show (if (1 : Int) = 0 then _ else cpl (m_s S 0 0 1) T s ns O Q Z t nc m WC L)
      rw [if_neg (show ¬ (1 : Int) = 0 by decide)]
      exact h.th 1
  · rw [if_neg c]
    obtain ⟨a1, a2, a3, a4, a5⟩ := h
    obtain ⟨⟨q1, q2, q3, q4, q5⟩, e1, e2, e3, e4⟩ := a1
    have hns := e1.len
    have g0 : ∀ q j : Int, ¬ (q = 0 ∧ (j = 0 ∨ j = 15)) → m_s (m_s S 0 0 0) 0 15 0 q j = S q j := fun q j z => by rw [m_s_n (by omega), m_s_n (by omega)]
    have hB : lsB (m_s (m_s S 0 0 0) 0 15 0) T s.2.1.2 ns nc WC := ⟨q1.ex (fun q j z => g0 q j (by omega)), e1.exg (fun q j z => g0 q j (by omega)) (fun q _ => rfl), a4.ex (fun q j z => g0 q j (by omega))⟩
    have hI : lsI (m_s (m_s S 0 0 0) 0 15 0) ns s.2.1.2 (0, L, s.1.1, s.2.1.2) := ⟨m_s_s, Int.le_refl _, fun i i0 i1 => absurd i1 (by show ¬ i < 0; omega), fun i j i0 i1 => absurd i1 (by show ¬ i < 0; omega), q2.ex (fun j => g0 1 j (by omega)), esim.refl _⟩
    have hc0 : ctd s.2.1.2 WC ns 0 (0, L, s.1.1, s.2.1.2) := ⟨fun i i0 i1 => absurd i1 (by show ¬ i < 0; omega), fun k e k0 k1 => absurd k1 (by omega)⟩
    have hnc := a4.2.1
    obtain ⟨S1, b1, b2, b3, b4⟩ := p_ls1 (N := N) (mn := i) hN (nc - 0).toNat N 0 _ _ hB hI hc0 (by omega) (by omega) (by omega)
    have em1 : it (mla WC ns) (nc - 0).toNat 0 (0, L, s.1.1, s.2.1.2) = ml1 WC nc ns (0, L, s.1.1, s.2.1.2) := rfl
    rw [em1] at b2 b3
    have em2 : mkl WC nc ns i (0, L, s.1.1, s.2.1.2) = it (mlb WC nc i (ml1 WC nc ns (0, L, s.1.1, s.2.1.2)).1) (ns - 0).toNat 0 (ml1 WC nc ns (0, L, s.1.1, s.2.1.2)) := rfl
    generalize ml1 WC nc ns (0, L, s.1.1, s.2.1.2) = st1 at b2 b3 em2
    obtain ⟨S2, c1, c2, c3⟩ := p_ls2 (N := N) (mn := i) (ce := st1.1) hN (ns - 0).toNat N 0 S1 st1 (hB.ex b4) b2 ⟨⟨b2.2.1, Int.le_refl _⟩, b3.1, b3.2, fun i i0 i1 => absurd i1 (by omega)⟩ (by omega) (by omega) (by omega)
    rw [← em2] at c2
    generalize mkl WC nc ns i (0, L, s.1.1, s.2.1.2) = st at c2
    have hB2 := (hB.ex b4).ex c3
    obtain ⟨S3, T3, d1, d2, d3, d4, d5⟩ := p_ls3 (N := N) 8 N 0 S2 T hB2.1 (by omega) (by omega) (by omega)
    have hle := c2.le hns.1
    obtain ⟨i1, i2, i3, i4, i5, i6⟩ := c2
    have g2 : ∀ q j : Int, q ≠ 1 → q ≠ 11 → ¬ (q = 0 ∧ (j = 0 ∨ j = 15)) → S2 q j = S q j := fun q j z y w => ((b4.trans c3) q j z y (by omega)).trans (g0 q j w)
    have g3 : ∀ q j : Int, q ≠ 1 → q ≠ 11 → q ≠ 3 → q ≠ 4 → ¬ (q = 0 ∧ (j = 0 ∨ j = 15)) → S3 q j = S q j := fun q j z y x w v => (d5 q j x w).trans (g2 q j z y v)
    refine ⟨S2 0 15, S3, T3, ?_, ?_, fun _ => i1, ?_⟩
    · rw [A_list_e, if_neg c, b1, b2.1, c1, d1]
    · rw [d5 0 0 (by decide) (by decide), (b4.trans c3) 0 0 (by decide) (by decide) (by omega), m_sj (by decide), m_s_s]
    · show (if (0 : Int) = 0 then cpl S3 T3 ((st.2.2.1, s.1.2), (s.2.1.1, st.2.2.2), s.2.2) ns O Q Z t nc st.1 WC st.2.1 else _)
      rw [if_pos (show (0 : Int) = 0 from rfl)]
      refine ⟨⟨⟨d2, i5.ex (fun j => d5 1 j (by decide) (by decide)), (g3 0 26 (by decide) (by decide) (by decide) (by decide) (by omega)).trans q3, q4, fun k k0 k1 => (q5 k k0 k1).ex (g3 16 k (by decide) (by decide) (by decide) (by decide) (by omega)) (g3 17 k (by decide) (by decide) (by decide) (by decide) (by omega)) (d3 _ (by omega))⟩, (e1.exg (fun q j z => g3 q j (by omega) (by omega) (by omega) (by omega) (by omega)) (fun q z => d3 q (by omega))).sim i6, fun g x0 x1 => ?_, e3.ex (fun q j z => g3 q j (by omega) (by omega) (by omega) (by omega) (by omega)), fun k k0 k1 => ?_⟩, a2.keep (K' := S) (fun q j z => g3 q j (by omega) (by omega) (by omega) (by omega) (by omega)), a3.ex (fun q j z => g3 q j (by omega) (by omega) (by omega) (by omega) (by omega)), a4.ex (fun q j z => g3 q j (by omega) (by omega) (by omega) (by omega) (by omega)), ⟨(d5 0 15 (by decide) (by decide)).trans i1, by omega, fun k k0 k1 => (d5 11 k (by decide) (by decide)).trans (i3 k k0 k1).1, i4⟩⟩
      · rw [g3 15 g (by decide) (by decide) (by decide) (by decide) (by omega)]
        exact e2 g x0 x1
      · have := i3 k k0 k1
        refine ⟨this.2.1, ?_⟩
        rw [d4 _ this.2.1.1 (by omega)]
        exact this.2.2.symm
