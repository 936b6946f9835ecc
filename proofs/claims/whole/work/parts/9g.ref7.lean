def shL (S : s_M) (c k n : Int) : s_M := fun q j => if q = 26 ∧ k ≤ j ∧ j < n then S 26 (c + 1 + j) else S q j
def shR (S : s_M) (m : Int) : s_M := fun q j => if q = 26 ∧ 2 ≤ j ∧ j < m + 2 then S 26 (j - 2) else S q j
def shF (S : s_M) (n : Int) : s_M := m_s (m_s (m_s (shR S n) 26 0 32) 26 1 32) 0 45 (n + 2)
theorem p_shr {N : Nat} {r : Int} (hr : 0 ≤ r ∧ r ≤ 180) : ∀ (m n : Nat) (S : s_M), (m : Int) ≤ r → m < n → A_breaks_l54 N n r ((m : Int) - 1) S = some (0, m_s (m_s (m_s (shR S m) 26 0 32) 26 1 32) 0 45 (r + 2))
  | m, 0, S, h1, h2 => absurd h2 (Nat.not_lt_zero _)
  | 0, n + 1, S, h1, h2 => by
    have : shR S ((0 : Nat) : Int) = S := by
      funext q j
      exact if_neg (by omega)
    rw [A_breaks_l54_e, if_pos (by omega), chk_e (by omega), this]
  | m + 1, n + 1, S, h1, h2 => by
    rw [A_breaks_l54_e, if_neg (by omega), chk_e (by omega), chk_e (by omega), chk_e (by omega), chk_e (by omega), show ((m + 1 : Nat) : Int) - 1 + (-1) = (m : Int) - 1 by omega, show ((m + 1 : Nat) : Int) - 1 = (m : Int) by omega]
    rw [p_shr hr m n (m_s S 26 ((m : Int) + 2) (S 26 m)) (by omega) (by omega)]
    congr 5
    funext q j
    unfold shR
    by_cases e6 : q = 26
    · rw [e6]
      by_cases e1 : 2 ≤ j ∧ j < (m : Int) + 2
      · rw [if_pos ⟨rfl, e1⟩, if_pos ⟨rfl, by omega⟩, m_sj (by omega)]
      · rw [if_neg (fun z => e1 z.2)]
        by_cases e2 : j = (m : Int) + 2
        · rw [e2, m_s_s, if_pos ⟨rfl, by omega⟩]
          congr 1
          omega
        · rw [m_sj e2, if_neg (by omega)]
    · rw [if_neg (fun z => e6 z.1), if_neg (fun z => e6 z.1), m_sk e6]
theorem p_shl {N : Nat} (hN : 1000 ≤ N) {c : Int} (hc : 3 ≤ c ∧ c ≤ 180) : ∀ (m n : Nat) (k : Int) (S : s_M), 0 ≤ k → c + 1 + (k + m) ≤ 182 → m < n → A_breaks_l19 N n c (k + m) k S = some (0, shF (shL S c k (k + m)) (k + m))
  | m, 0, k, S, h0, h1, h2 => absurd h2 (Nat.not_lt_zero _)
  | 0, n + 1, k, S, h0, h1, h2 => by
    have : shL S c k (k + ((0 : Nat) : Int)) = S := by
      funext q j
      exact if_neg (by omega)
    rw [A_breaks_l19_e, if_neg (by omega), chk_e (by omega), this]
    have hs := p_shr (N := N) (r := k + ((0 : Nat) : Int)) (by omega) (k + ((0 : Nat) : Int)).toNat N S (by omega) (by omega)
    rw [show (((k + ((0 : Nat) : Int)).toNat : Nat) : Int) = k + ((0 : Nat) : Int) by omega] at hs
    exact hs
  | m + 1, n + 1, k, S, h0, h1, h2 => by
    rw [A_breaks_l19_e, if_pos (by omega), chk_e (by omega), chk_e (by omega), chk_e (by omega), chk_e (by omega), chk_e (by omega)]
    rw [show k + ((m + 1 : Nat) : Int) = k + 1 + (m : Int) by omega, p_shl hN hc m n (k + 1) (m_s S 26 k (S 26 (c + 1 + k))) (by omega) (by omega) (by omega)]
    congr 3
    funext q j
    unfold shL
    by_cases e6 : q = 26
    · rw [e6]
      by_cases e1 : k + 1 ≤ j ∧ j < k + 1 + (m : Int)
      · rw [if_pos ⟨rfl, e1⟩, if_pos ⟨rfl, by omega⟩, m_sj (by omega)]
      · rw [if_neg (fun z => e1 z.2)]
        by_cases e2 : j = k
        · rw [e2, m_s_s, if_pos ⟨rfl, by omega⟩]
        · rw [m_sj e2, if_neg (by omega)]
    · rw [if_neg (fun z => e6 z.1), if_neg (fun z => e6 z.1), m_sk e6]
theorem tg_two {l : List Int} {j : Int} (h0 : 0 ≤ j) : tg (32 :: 32 :: l) j = if j < 2 then 32 else tg l (j - 2) := by
  have e : tg ([32, 32] ++ l) j = if j < (([32, 32] : List Int).length : Int) then tg [32, 32] j else tg l (j - (([32, 32] : List Int).length : Int)) := tg_append
  show tg ([32, 32] ++ l) j = _
  rw [e]
  show (if j < ((2 : Nat) : Int) then tg [32, 32] j else tg l (j - ((2 : Nat) : Int))) = _
  by_cases h : j < 2
  · rw [if_pos (by omega), if_pos h]
    rcases (by omega : j = 0 ∨ j = 1) with q | q <;> rw [q] <;> rfl
  · rw [if_neg (by omega), if_neg h]
    rfl
theorem p_breaks {N : Nat} (hN : 1000 ≤ N) {S : s_M} {s : pgs} (h : PX S s) (hn : s.1 < 2147480000) {c : Int} (hc : 3 ≤ c ∧ c < (s.2.1.length : Int)) : ∃ S', A_breaks N c S = some (0, S') ∧ PX S' (s.1 + 1, 32 :: 32 :: s.2.1.drop (c + 1).toNat, kpK s.1 s.2.2 (s.2.1.take c.toNat)) ∧ exP S S' := by
  obtain ⟨S1, a1, a2, a3, a4⟩ := p_ends (N := N) hN h hn (e := c.toNat) (by omega)
  rw [show ((c.toNat : Nat) : Int) = c by omega] at a1
  have h3 := h.2.2.1
  have h4 := h.2.2.2.1
  have hl := p_shl (N := N) hN (c := c) (by omega) ((s.2.1.length : Int) - c - 1).toNat N 0 S1 (by omega) (by omega) (by omega)
  rw [show (0 : Int) + ((((s.2.1.length : Int) - c - 1).toNat : Nat) : Int) = (s.2.1.length : Int) - c - 1 by omega] at hl
  have hlen : (32 :: 32 :: s.2.1.drop (c + 1).toNat).length = s.2.1.length - (c + 1).toNat + 2 := by
    rw [List.length_cons, List.length_cons, List.length_drop]
  obtain ⟨b1, b2, b3, b4, b5, b6⟩ := a2
  have ex1 : exP S1 (shF (shL S1 c 0 ((s.2.1.length : Int) - c - 1)) ((s.2.1.length : Int) - c - 1)) := fun q j q1 q2 q3 q4 => by
    unfold shF
    rw [m_s_n (fun z => q4 ⟨z.1, Or.inr z.2⟩), m_sk q1, m_sk q1]
    unfold shR
    rw [if_neg (fun z => q1 z.1)]
    unfold shL
    rw [if_neg (fun z => q1 z.1)]
  refine ⟨_, ?_, ?_, a3.trans ex1⟩
  · rw [A_breaks_e, bnd_e a1, h3, chk_e (by omega), chk_e (by omega)]
    exact hl
  · refine ⟨?_, b2, ?_, by show (32 :: 32 :: s.2.1.drop (c + 1).toNat).length ≤ 180; omega, fun i i0 i1 => ?_, fun i i0 i1 i2 => ?_⟩
    · show shF _ _ 0 44 = _
      unfold shF
      rw [m_sj (by decide), m_sk (by decide), m_sk (by decide)]
      unfold shR
      rw [if_neg (fun z => absurd z.1 (by decide))]
      unfold shL
      rw [if_neg (fun z => absurd z.1 (by decide))]
      exact b1
    · show shF _ _ 0 45 = ((32 :: 32 :: s.2.1.drop (c + 1).toNat).length : Int)
      unfold shF
      rw [m_s_s, hlen]
      omega
    · have i2 : i < ((32 :: 32 :: s.2.1.drop (c + 1).toNat).length : Int) := i1
      show shF _ _ 26 i = tg (32 :: 32 :: s.2.1.drop (c + 1).toNat) i
      rw [tg_two i0]
      unfold shF
      rw [m_sk (by decide)]
      by_cases e0 : i < 2
      · rw [if_pos e0]
        rcases (by omega : i = 0 ∨ i = 1) with q | q
        · rw [q, m_sj (by decide), m_s_s]
        · rw [q, m_s_s]
      · rw [if_neg e0, m_sj (by omega), m_sj (by omega)]
        unfold shR
        rw [if_pos ⟨rfl, by omega⟩]
        unfold shL
        rw [if_pos ⟨rfl, by omega⟩, a4, h.2.2.2.2.1 _ (by omega) (by omega), tg_drop (by omega)]
        congr 1
        omega
    · obtain ⟨d1, d2, d3⟩ := b6 i i0 i1 i2
      have hq : ∀ q j : Int, q = 27 ∨ q = 28 → shF (shL S1 c 0 ((s.2.1.length : Int) - c - 1)) ((s.2.1.length : Int) - c - 1) q j = S1 q j := fun q j hq => by
        unfold shF
        rw [m_sk (by omega), m_sk (by omega), m_sk (by omega)]
        unfold shR
        rw [if_neg (fun z => by omega)]
        unfold shL
        rw [if_neg (fun z => by omega)]
      exact ⟨d1, (hq 27 i (Or.inl rfl)).trans d2, fun j j0 j1 => (hq 28 _ (Or.inr rfl)).trans (d3 j j0 j1)⟩
/-- one text behind another, up to n characters -/
def jsn (n : Nat) (u : List Int) (i : Int) (w : List Int) : List Int := ta n w (tg u i)
theorem jsn_it {n : Nat} {u : List Int} : ∀ (m : Nat) (k : Int) (w : List Int), 0 ≤ k → k + m ≤ (u.length : Int) → w.length ≤ n → it (jsn n u) m k w = w ++ sl u k (min (m : Int) ((n : Int) - w.length))
  | 0, k, w, h0, h1, h2 => by
    show w = _
    rw [sl_nil (by omega), List.append_nil]
  | m + 1, k, w, h0, h1, h2 => by
    show it (jsn n u) m (k + 1) (jsn n u k w) = _
    by_cases e : w.length < n
    · rw [show jsn n u k w = w ++ [tg u k] from if_pos e, jsn_it m (k + 1) _ (by omega) (by omega) (by rw [List.length_append]; show w.length + 1 ≤ n; omega), List.append_assoc, show min ((m + 1 : Nat) : Int) ((n : Int) - w.length) = min (m : Int) ((n : Int) - ((w ++ [tg u k]).length : Int)) + 1 by rw [List.length_append]; show _ = min (m : Int) ((n : Int) - ((w.length + 1 : Nat) : Int)) + 1; omega]
      rw [sl_cons h0 (by omega) (by rw [List.length_append]; show 0 ≤ min (m : Int) ((n : Int) - ((w.length + 1 : Nat) : Int)); omega)]
      rfl
    · rw [show jsn n u k w = w from if_neg e, jsn_it m (k + 1) w (by omega) (by omega) h2, sl_nil (by omega), sl_nil (by omega)]
theorem poa_it {t u : List Int} (h : t.length ≤ 180) : poa t u = it (jsn 180 u) u.length 0 t := by
  rw [jsn_it _ 0 t (by omega) (by omega) h]
  unfold poa
  congr 2
  omega
/-- the scan for a place to break at -/
theorem p_scan {N : Nat} {kk : Int → s_M → rO} {S : s_M} {s : pgs} (h : PX S s) : ∀ (m n : Nat) (i x y : Int) (q : Bool × Int), 3 ≤ i → i + m = (s.2.1.length : Int) ∨ (m = 0 ∧ (s.2.1.length : Int) ≤ i) → i ≤ 1000 → (if y < 0 then x else y) = q.2 → (q.1 = true → 30 < i ∧ 0 ≤ q.2) → (i ≤ 31 → (x < 0 ↔ y < 0)) → m < n → A_putOut_l77 N kk n x y i S = (if (it (bps s.2.1) m i q).2 < 0 then A_putOut_j178 N kk 0 S else bnd (A_breaks N (it (bps s.2.1) m i q).2 S) fun _ S11 => A_putOut_j178 N kk 1 S11)
  | m, 0, i, x, y, q, h0, h1, h3, hq, hb, hx, h2 => absurd h2 (Nat.not_lt_zero _)
  | 0, n + 1, i, x, y, q, h0, h1, h3, hq, hb, hx, h2 => by
    have h45 := h.2.2.1
    rw [A_putOut_l77_e, if_neg (by omega), hq]
    show _ = if q.2 < 0 then _ else _
    by_cases e : q.2 < 0
    · rw [if_pos e, if_pos rfl, if_pos e]
    · rw [if_neg e, if_neg (by decide), if_neg e]
      rfl
  | m + 1, n + 1, i, x, y, q, h0, h1, h3, hq, hb, hx, h2 => by
    have h45 := h.2.2.1
    have h26 := h.2.2.2.2.1 i (by omega) (by omega)
    have h4 := h.2.2.2.1
    rw [A_putOut_l77_e, if_pos (by omega), chk_e (by omega), chk_e (by omega), h26]
    show _ = (if (it (bps s.2.1) m (i + 1) (bps s.2.1 i q)).2 < 0 then _ else bnd (A_breaks N (it (bps s.2.1) m (i + 1) (bps s.2.1 i q)).2 S) _)
    have hs : bps s.2.1 i q = if q.1 = true then q else if 30 < i ∧ 0 ≤ q.2 then (true, q.2) else if tg s.2.1 i = 32 then (false, i) else q := rfl
    have hq' : (y < 0 ∧ x = q.2) ∨ (¬ y < 0 ∧ y = q.2) := by
      by_cases y0 : y < 0
      · rw [if_pos y0] at hq
        exact Or.inl ⟨y0, hq⟩
      · rw [if_neg y0] at hq
        exact Or.inr ⟨y0, hq⟩
    by_cases e32 : tg s.2.1 i = 32
    · rw [if_pos e32, if_neg (show ¬ (1 : Int) = 0 by decide), if_neg (show ¬ (1 : Int) = 0 by decide)]
      refine p_scan h m n (i + 1) _ _ (bps s.2.1 i q) (by omega) (by omega) (by omega) ?_ ?_ ?_ (by omega)
      · rw [hs]
        by_cases b3 : 30 < i
        · rw [if_pos b3]
          rcases hq' with ⟨y0, xq⟩ | ⟨y0, yq⟩
          · rw [if_pos y0]
            by_cases x0 : x < 0
            · have b1 : ¬ q.1 = true := fun z => by have := hb z; omega
              rw [if_pos x0, if_neg b1, if_neg (by omega), if_pos e32]
            · rw [if_neg x0]
              by_cases b1 : q.1 = true
              · rw [if_pos b1]
                exact xq
              · rw [if_neg b1, if_pos ⟨b3, by omega⟩]
                exact xq
          · rw [if_neg y0]
            by_cases b1 : q.1 = true
            · rw [if_pos b1]
              exact yq
            · rw [if_neg b1, if_pos ⟨b3, by omega⟩]
              exact yq
        · have b1 : ¬ q.1 = true := fun z => b3 (hb z).1
          rw [if_neg b3, if_neg (show ¬ i < 0 by omega), if_neg b1, if_neg (fun z => b3 z.1), if_pos e32]
      · rw [hs]
        by_cases b1 : q.1 = true
        · rw [if_pos b1]
          intro z
          have := hb b1
          omega
        · rw [if_neg b1]
          by_cases b2 : 30 < i ∧ 0 ≤ q.2
          · rw [if_pos b2]
            intro _
            exact ⟨by omega, b2.2⟩
          · rw [if_neg b2, if_pos e32]
            intro z
            exact Bool.noConfusion z
      · intro i1
        rw [if_neg (show ¬ 30 < i by omega)]
        by_cases x0 : x < 0
        · rw [if_pos x0]
        · rw [if_neg x0]
          omega
    · rw [if_neg e32, if_pos (show (0 : Int) = 0 from rfl), if_pos (show (0 : Int) = 0 from rfl)]
      refine p_scan h m n (i + 1) _ _ (bps s.2.1 i q) (by omega) (by omega) (by omega) ?_ ?_ (fun i1 => hx (by omega)) (by omega)
      · rw [hs, if_neg e32]
        by_cases b1 : q.1 = true
        · rw [if_pos b1]
          exact hq
        · rw [if_neg b1]
          by_cases b2 : 30 < i ∧ 0 ≤ q.2
          · rw [if_pos b2]
            exact hq
          · rw [if_neg b2]
            exact hq
      · rw [hs, if_neg e32]
        by_cases b1 : q.1 = true
        · rw [if_pos b1]
          intro z
          have := hb b1
          omega
        · rw [if_neg b1]
          by_cases b2 : 30 < i ∧ 0 ≤ q.2
          · rw [if_pos b2]
            intro _
            exact ⟨by omega, b2.2⟩
          · rw [if_neg b2]
            intro z
            exact absurd z b1
theorem p_pol {N : Nat} (hN : 1000 ≤ N) : ∀ (m n : Nat) (S : s_M) (s : pgs), PX S s → s.1 + m < 2147480000 → s.2.1.length ≤ m → m < n → ∃ S', A_putOut_l57 N n 1 S = some (0, S') ∧ PX S' (pob m s) ∧ exP S S'
  | m, 0, S, s, h, hn, h1, h2 => absurd h2 (Nat.not_lt_zero _)
  | 0, n + 1, S, s, h, hn, h1, h2 => by
    have h45 := h.2.2.1
    exact ⟨S, by rw [A_putOut_l57_e, if_neg (by decide), if_neg (by omega), A_putOut_j181_e], h, exP.refl S⟩
  | m + 1, n + 1, S, s, h, hn, h1, h2 => by
    have h45 := h.2.2.1
    have h4 := h.2.2.2.1
    by_cases e30 : 30 < s.2.1.length
    · have hb := bpl_rng s.2.1
      have hsc := p_scan (N := N) (kk := A_putOut_l57 N n) h (s.2.1.length - 3) N 3 (-1) (-1) (false, -1) (by omega) (by omega) (by omega) (by decide) (fun z => Bool.noConfusion z) (fun _ => Iff.rfl) (by omega)
      have hbe : (it (bps s.2.1) (s.2.1.length - 3) 3 (false, -1)).2 = bpl s.2.1 := by
        unfold bpl
        rw [show ((s.2.1.length : Int) - 3).toNat = s.2.1.length - 3 by omega]
      rw [hbe] at hsc
      have hst : A_putOut_l57 N (n + 1) 1 S = A_putOut_l77 N (A_putOut_l57 N n) N (-1) (-1) 3 S := by
        rw [A_putOut_l57_e, if_neg (by decide), if_pos (by omega)]
      by_cases eb : bpl s.2.1 < 0
      · obtain ⟨n', rfl⟩ : ∃ n', n = n' + 1 := ⟨n - 1, by omega⟩
        refine ⟨S, ?_, ?_, exP.refl S⟩
        · rw [hst, hsc, if_pos eb, A_putOut_j178_e, A_putOut_l57_e, if_pos rfl, A_putOut_j181_e]
        · rw [show pob (m + 1) s = s from (if_pos e30).trans (if_pos eb)]
          exact h
      · obtain ⟨S1, a1, a2, a3⟩ := p_breaks (N := N) hN h (by omega) (c := bpl s.2.1) (by omega)
        have hl2 : (32 :: 32 :: s.2.1.drop (bpl s.2.1 + 1).toNat).length ≤ m := by
          rw [List.length_cons, List.length_cons, List.length_drop]
          omega
        obtain ⟨S2, b1, b2, b3⟩ := p_pol hN m n S1 _ a2 (by show s.1 + 1 + m < 2147480000; omega) hl2 (by omega)
        refine ⟨S2, ?_, ?_, a3.trans b3⟩
        · rw [hst, hsc, if_neg eb, bnd_e a1, A_putOut_j178_e]
          exact b1
        · rw [show pob (m + 1) s = pob m (s.1 + 1, 32 :: 32 :: s.2.1.drop (bpl s.2.1 + 1).toNat, kpK s.1 s.2.2 (s.2.1.take (bpl s.2.1).toNat)) from (if_pos e30).trans (if_neg eb)]
          exact b2
    · refine ⟨S, by rw [A_putOut_l57_e, if_neg (by decide), if_neg (by omega), A_putOut_j181_e], ?_, exP.refl S⟩
      rw [show pob (m + 1) s = s from if_neg e30]
      exact h
theorem p_pal {N : Nat} {u : List Int} {np : Int} {K : Int → List Int} : ∀ (m n : Nat) (k : Int) (S : s_M) (T : Int → List Int) (t : List Int), TX S T → T 82 = u → PX S (np, t, K) → 0 ≤ k → k + m = (u.length : Int) → m < n → ∃ S', A_putOut_l2 N n k S = A_putOut_j55 N S' ∧ PX S' (np, it (jsn 180 u) m k t, K) ∧ exP S S'
  | m, 0, k, S, T, t, ht, hT, h, h0, h1, h2 => absurd h2 (Nat.not_lt_zero _)
  | 0, n + 1, k, S, T, t, ht, hT, h, h0, h1, h2 => by
    have hl := ht.len (k := 82) (by decide)
    rw [hT] at hl
    exact ⟨S, by rw [A_putOut_l2_e, if_neg (by omega)], h, exP.refl S⟩
  | m + 1, n + 1, k, S, T, t, ht, hT, h, h0, h1, h2 => by
    have hl := ht.len (k := 82) (by decide)
    rw [hT] at hl
    obtain ⟨p1, p2, p3, p4, p5, p6⟩ := id h
    have p3 : S 0 45 = (t.length : Int) := p3
    have p4 : t.length ≤ 180 := p4
    have p5 : ∀ i : Int, 0 ≤ i → i < (t.length : Int) → S 26 i = tg t i := p5
    by_cases e : t.length < 180
    · have ha := p_att (N := N) ht (t := 82) (k := k) (by decide) (by rw [hT]; omega)
      rw [hT] at ha
      have hP : PX (m_s (m_s S 26 (S 0 45) (tg u k)) 0 45 (S 0 45 + 1)) (np, t ++ [tg u k], K) := by
        refine ⟨?_, p2, ?_, ?_, fun i i0 i1 => ?_, fun i i0 i1 i2 => ?_⟩
        · rw [m_sj (by decide), m_sk (by decide)]
          exact p1
        · rw [m_s_s, p3]
          show (t.length : Int) + 1 = ((t ++ [tg u k]).length : Int)
          rw [List.length_append]
          show (t.length : Int) + 1 = ((t.length + 1 : Nat) : Int)
          omega
        · show (t ++ [tg u k]).length ≤ 180
          rw [List.length_append]
          show t.length + 1 ≤ 180
          omega
        · have i2 : i < ((t ++ [tg u k]).length : Int) := i1
          rw [List.length_append] at i2
          have i3 : i < ((t.length + 1 : Nat) : Int) := i2
          show _ = tg (t ++ [tg u k]) i
          rw [m_sk (by decide), tg_app, p3]
          by_cases ei : i = (t.length : Int)
          · rw [if_pos ei, ei, m_s_s]
          · rw [if_neg ei, m_sj ei]
            exact p5 i i0 (by omega)
        · obtain ⟨d1, d2, d3⟩ := p6 i i0 i1 i2
          exact ⟨d1, by rw [m_sk (by decide), m_sk (by decide)]; exact d2, fun j j0 j1 => by rw [m_sk (by decide), m_sk (by decide)]; exact d3 j j0 j1⟩
      obtain ⟨S2, b1, b2, b3⟩ := p_pal (N := N) (u := u) m n (k + 1) _ T _ (ht.ex (fun z j hz => by rw [m_sk (by omega), m_sk (by omega)])) hT hP (by omega) (by omega) (by omega)
      have es : jsn 180 u k t = t ++ [tg u k] := if_pos e
      refine ⟨S2, ?_, by show PX S2 (np, it (jsn 180 u) m (k + 1) (jsn 180 u k t), K); rw [es]; exact b2, ((exP.put (by omega)).trans (exP.put (by omega))).trans b3⟩
      rw [A_putOut_l2_e, if_pos (by omega), if_pos (by omega), bnd_e ha, chk_e (by omega), chk_e (by omega), chk_e (by omega)]
      exact b1
    · refine ⟨S, by rw [A_putOut_l2_e, if_pos (by omega), if_neg (by omega)], ?_, exP.refl S⟩
      rw [it_abs (jsn 180 u) (s := t) (fun j => if_neg e)]
      exact h
theorem p_putOut {N : Nat} (hN : 1000 ≤ N) {S : s_M} {T : Int → List Int} {s : pgs} (ht : TX S T) (h : PX S s) (hn : s.1 < 2147470000) : ∃ S', A_putOut N S = some (0, S') ∧ PX S' (po (T 82) s) ∧ exP S S' := by
  have hl := ht.len (k := 82) (by decide)
  obtain ⟨S1, a1, a2, a3⟩ := p_pal (N := N) (u := T 82) (np := s.1) (K := s.2.2) (T 82).length N 0 S T s.2.1 ht rfl h (by omega) (by omega) (by omega)
  rw [← poa_it h.2.2.2.1] at a2
  have h180 : (poa s.2.1 (T 82)).length ≤ 180 := a2.2.2.2.1
  obtain ⟨S2, b1, b2, b3⟩ := p_pol (N := N) hN 180 N S1 (s.1, poa s.2.1 (T 82), s.2.2) a2 (by show s.1 + ((180 : Nat) : Int) < 2147480000; omega) h180 (by omega)
  exact ⟨S2, by rw [A_putOut_e, a1, A_putOut_j55_e]; exact b1, b2, a3.trans b3⟩
