/-- rows of people alone -/
def exB (S S' : s_M) : Prop := ∀ q j : Int, (q < 22 ∨ 25 < q) → ¬ (q = 0 ∧ (j = 37 ∨ j = 38 ∨ j = 43)) → S' q j = S q j
theorem exB.refl (S : s_M) : exB S S := fun _ _ _ _ => rfl
theorem exB.trans {A B C : s_M} (h1 : exB A B) (h2 : exB B C) : exB A C := fun q j a b => (h2 q j a b).trans (h1 q j a b)
theorem exB.put {S : s_M} {q j x : Int} (h : (22 ≤ q ∧ q ≤ 25) ∨ (q = 0 ∧ (j = 37 ∨ j = 38 ∨ j = 43))) : exB S (m_s S q j x) := fun q' j' a b => m_s_n (fun z => by
  obtain ⟨z1, z2⟩ := z
  rw [z1] at a b
  rw [z2] at b
  rcases h with h | h
  · omega
  · exact b h)
theorem exB.exR {S S' : s_M} (h : exB S S') : exR S S' := fun q j a => by
  obtain ⟨a1, a2, a3, a4, a5, a6, a7, a8⟩ := a
  exact h q j (by omega) (fun z => a8 ⟨z.1, by omega⟩)
/-- the part in which word j lies -/
def ptn (np : Int) (Pb : Int → Int) (j : Int) : Int := if np ≤ 1 ∨ j < Pb 1 then 0 else if np ≤ 2 ∨ j < Pb 2 then 1 else 2
def pbk (np w : Int) (Pb : Int → Int) : Prop := (1 ≤ np ∧ np ≤ 3) ∧ (2 ≤ np → 0 ≤ Pb 1 ∧ Pb 1 ≤ w) ∧ (3 ≤ np → Pb 1 ≤ Pb 2 ∧ Pb 2 ≤ w)
theorem ptn_end {np w : Int} {Pb : Int → Int} (h : pbk np w Pb) : ptn np Pb w = np - 1 := by
  obtain ⟨a, b, c⟩ := h
  unfold ptn
  split
  · omega
  · split <;> omega
/-- the words below w -/
def wdb (S : s_M) (bg k w np : Int) (B N Pb : Int → Int) : Prop := ∀ j : Int, 0 ≤ j → j < w → S 22 j = B j ∧ S 23 j = N j ∧ (bg ≤ B j ∧ B j < N j ∧ N j ≤ k) ∧ S 24 j = ptn np Pb j
def ctk (S : s_M) (bg k : Int) (s : dst) : Prop := (0 ≤ s.2.2.1 5 ∧ 2 * s.2.2.1 5 + (if s.1 < 0 then 0 else 1) ≤ k - bg) ∧ S 0 37 = s.2.2.1 5 + (if s.1 < 0 then 0 else 1) ∧ S 0 38 = s.2.2.1 7 ∧ (0 ≤ s.1 → (bg ≤ s.1 ∧ s.1 < k) ∧ S 22 (s.2.2.1 5) = s.1 ∧ S 23 (s.2.2.1 5) = k ∧ S 24 (s.2.2.1 5) = s.2.2.1 7 - 1) ∧ wdb S bg k (s.2.2.1 5) (s.2.2.1 7) s.2.2.2.1 s.2.2.2.2.1 s.2.2.2.2.2 ∧ pbk (s.2.2.1 7) (s.2.2.1 5) s.2.2.2.2.2
theorem wdb.ext {S S' : s_M} {bg k k' w np : Int} {B N Pb : Int → Int} (h : wdb S bg k w np B N Pb) (hk : k ≤ k') (e : ∀ q j : Int, 22 ≤ q ∧ q ≤ 24 → 0 ≤ j → j < w → S' q j = S q j) : wdb S' bg k' w np B N Pb := fun j j0 j1 => by
  obtain ⟨a, b, c, d⟩ := h j j0 j1
  exact ⟨(e 22 j (by omega) j0 j1).trans a, (e 23 j (by omega) j0 j1).trans b, ⟨c.1, c.2.1, by omega⟩, (e 24 j (by omega) j0 j1).trans d⟩
theorem rset_ne {g : Int → Int} {j x i : Int} (h : i ≠ j) : rset g j x i = g i := if_neg h
/-- a word is finished -/
theorem ctk.fin {S : s_M} {bg k : Int} {st v : Int} {V B N Pb : Int → Int} (hb : 0 ≤ bg) (hk : k - bg ≤ 100) (h : ctk S bg k (st, v, V, B, N, Pb)) (e : Int) (he : e = k) : S 0 37 = adV st V 5 ∧ adV st V 7 = V 7 ∧ (0 ≤ adV st V 5 ∧ 2 * adV st V 5 ≤ k - bg + 1) ∧ wdb S bg k (adV st V 5) (V 7) (adB st V B) (adN st e V N) Pb ∧ pbk (V 7) (adV st V 5) Pb := by
  obtain ⟨a1, a2, a3, a4, a5, a6⟩ := h
  have a1 : 0 ≤ V 5 ∧ 2 * V 5 + (if st < 0 then 0 else 1) ≤ k - bg := a1
  have a2 : S 0 37 = V 5 + (if st < 0 then 0 else 1) := a2
  have a4 : 0 ≤ st → (bg ≤ st ∧ st < k) ∧ S 22 (V 5) = st ∧ S 23 (V 5) = k ∧ S 24 (V 5) = V 7 - 1 := a4
  have a5 : wdb S bg k (V 5) (V 7) B N Pb := a5
  have a6 : pbk (V 7) (V 5) Pb := a6
  unfold adV adB adN
  by_cases c : st < 0
  · rw [if_pos c] at a1 a2
    rw [if_neg (by omega), if_neg (by omega), if_neg (by omega)]
    exact ⟨by omega, rfl, by omega, a5, a6⟩
  · rw [if_neg c] at a1 a2
    rw [if_pos (by omega), if_pos (by omega), if_pos (by omega)]
    have i5 : inc V 5 5 = V 5 + 1 := if_pos rfl
    have i7 : inc V 5 7 = V 7 := if_neg (by decide)
    obtain ⟨b1, b2, b3, b4⟩ := a4 (by omega)
    rw [i5, i7]
    refine ⟨by omega, rfl, by omega, fun j j0 j1 => ?_, ?_⟩
    · by_cases q : j = V 5
      · rw [q, rset_at, rset_at, he, ptn_end a6]
        exact ⟨b2, b3, ⟨b1.1, b1.2, Int.le_refl _⟩, b4⟩
      · rw [rset_ne q, rset_ne q]
        exact a5 j j0 (by omega)
    · obtain ⟨c1, c2, c3⟩ := a6
      exact ⟨c1, fun z => by have := c2 z; omega, fun z => by have := c3 z; omega⟩
theorem ctk.non {S : s_M} {t : List Int} {bg k : Int} {st v : Int} {V B N Pb : Int → Int} (hb : 0 ≤ bg) (hk : k - bg ≤ 100) (h : ctk S bg k (st, v, V, B, N, Pb)) (hd : 0 < v ∨ isdiv (tg t k) = false) : ctk (m_s (if st < 0 then m_s (m_s (m_s S 22 (V 5) k) 24 (V 5) (V 7 - 1)) 0 37 (V 5 + 1) else S) 23 (V 5) (k + 1)) bg (k + 1) (dvs t k (st, v, V, B, N, Pb)) := by
  obtain ⟨a1, a2, a3, a4, a5, a6⟩ := h
  have a1 : 0 ≤ V 5 ∧ 2 * V 5 + (if st < 0 then 0 else 1) ≤ k - bg := a1
  have a2 : S 0 37 = V 5 + (if st < 0 then 0 else 1) := a2
  have a3 : S 0 38 = V 7 := a3
  have a4 : 0 ≤ st → (bg ≤ st ∧ st < k) ∧ S 22 (V 5) = st ∧ S 23 (V 5) = k ∧ S 24 (V 5) = V 7 - 1 := a4
  have a5 : wdb S bg k (V 5) (V 7) B N Pb := a5
  have hv : dvs t k (st, v, V, B, N, Pb) = (if st < 0 then k else st, p_lev v (tg t k), V, B, N, Pb) := if_pos hd
  rw [hv]
  by_cases c : st < 0
  · rw [if_pos c] at a1 a2
    rw [if_pos c, if_pos c]
    have ck : ¬ k < 0 := by omega
    refine ⟨?_, ?_, ?_, fun _ => ⟨⟨by show bg ≤ k; omega, by show k < k + 1; omega⟩, ?_, ?_, ?_⟩, ?_, a6⟩
    · show 0 ≤ V 5 ∧ 2 * V 5 + (if k < 0 then 0 else 1) ≤ k + 1 - bg
      rw [if_neg ck]
      omega
    · show _ = V 5 + (if k < 0 then 0 else 1)
      rw [if_neg ck, m_sk (by decide), m_s_s]
    · show _ = V 7
      rw [m_sk (by decide), m_sj (by decide), m_sk (by decide), m_sk (by decide)]
      exact a3
    · show m_s (m_s (m_s (m_s S 22 (V 5) k) 24 (V 5) (V 7 - 1)) 0 37 (V 5 + 1)) 23 (V 5) (k + 1) 22 (V 5) = k
      rw [m_sk (by decide), m_sk (by decide), m_sk (by decide), m_s_s]
    · show m_s (m_s (m_s (m_s S 22 (V 5) k) 24 (V 5) (V 7 - 1)) 0 37 (V 5 + 1)) 23 (V 5) (k + 1) 23 (V 5) = k + 1
      rw [m_s_s]
    · show m_s (m_s (m_s (m_s S 22 (V 5) k) 24 (V 5) (V 7 - 1)) 0 37 (V 5 + 1)) 23 (V 5) (k + 1) 24 (V 5) = V 7 - 1
      rw [m_sk (by decide), m_sk (by decide), m_s_s]
    · refine a5.ext (by omega) (fun q j z j0 j1 => ?_)
      have j1 : j < V 5 := j1
      rw [m_sj (by omega), m_sk (by omega), m_sj (by omega), m_sj (by omega)]
  · rw [if_neg c] at a1 a2
    rw [if_neg c, if_neg c]
    obtain ⟨b1, b2, b3, b4⟩ := a4 (by omega)
    refine ⟨?_, ?_, ?_, fun _ => ⟨⟨b1.1, by show st < k + 1; omega⟩, ?_, ?_, ?_⟩, ?_, a6⟩
    · show 0 ≤ V 5 ∧ 2 * V 5 + (if st < 0 then 0 else 1) ≤ k + 1 - bg
      rw [if_neg c]
      omega
    · show _ = V 5 + (if st < 0 then 0 else 1)
      rw [if_neg c, m_sk (by decide)]
      exact a2
    · show _ = V 7
      rw [m_sk (by decide)]
      exact a3
    · show m_s S 23 (V 5) (k + 1) 22 (V 5) = st
      rw [m_sk (by decide)]
      exact b2
    · show m_s S 23 (V 5) (k + 1) 23 (V 5) = k + 1
      rw [m_s_s]
    · show m_s S 23 (V 5) (k + 1) 24 (V 5) = V 7 - 1
      rw [m_sk (by decide)]
      exact b4
    · refine a5.ext (by omega) (fun q j z j0 j1 => ?_)
      have j1 : j < V 5 := j1
      rw [m_sj (by omega)]
theorem ctk.div {S : s_M} {t : List Int} {bg k : Int} {st v : Int} {V B N Pb : Int → Int} (hb : 0 ≤ bg) (hk : k - bg ≤ 100) (h : ctk S bg k (st, v, V, B, N, Pb)) (hd : ¬ (0 < v ∨ isdiv (tg t k) = false)) : ctk (if tg t k = 44 ∧ V 7 < 3 then m_s S 0 38 (V 7 + 1) else S) bg (k + 1) (dvs t k (st, v, V, B, N, Pb)) := by
  have hv : dvs t k (st, v, V, B, N, Pb) = (-1, v, dvp (tg t k) (adV st V) (adB st V B) (adN st k V N) Pb) := if_neg hd
  obtain ⟨f1, f2, f3, f4, f5⟩ := h.fin hb hk k rfl
  have a3 : S 0 38 = V 7 := h.2.2.1
  rw [hv]
  unfold dvp
  rw [f2]
  by_cases c : tg t k = 44 ∧ V 7 < 3
  · rw [if_pos c, if_pos c]
    have i5 : inc (adV st V) 7 5 = adV st V 5 := if_neg (by decide)
    have i7 : inc (adV st V) 7 7 = V 7 + 1 := (if_pos rfl).trans (by rw [f2])
    obtain ⟨g1, g2, g3⟩ := f5
    refine ⟨?_, ?_, ?_, fun z => absurd z (by show ¬ (0 : Int) ≤ -1; decide), ?_, ?_⟩
    · show 0 ≤ inc (adV st V) 7 5 ∧ 2 * inc (adV st V) 7 5 + (if (-1 : Int) < 0 then 0 else 1) ≤ k + 1 - bg
      rw [i5, if_pos (by decide)]
      omega
    · show _ = inc (adV st V) 7 5 + (if (-1 : Int) < 0 then 0 else 1)
      rw [i5, if_pos (by decide), m_sj (by decide), f1]
      omega
    · show _ = inc (adV st V) 7 7
      rw [i7, m_s_s]
    · show wdb _ bg (k + 1) (inc (adV st V) 7 5) (inc (adV st V) 7 7) (adB st V B) (adN st k V N) (rset Pb (V 7) (adV st V 5))
      rw [i5, i7]
      intro j j0 j1
      obtain ⟨d1, d2, d3, d4⟩ := f4 j j0 j1
      rw [m_sk (by decide), m_sk (by decide), m_sk (by decide)]
      refine ⟨d1, d2, ⟨d3.1, d3.2.1, by omega⟩, d4.trans ?_⟩
      unfold ptn
      rcases (by omega : V 7 = 1 ∨ V 7 = 2) with q | q
      · rw [q, rset_at, if_pos (by omega), if_pos (by omega)]
      · rw [q, rset_ne (by decide), rset_at]
        by_cases z : j < Pb 1
        · rw [if_pos (by omega), if_pos (by omega)]
        · rw [if_neg (by omega), if_pos (by omega), if_neg (by omega), if_pos (by omega)]
    · show pbk (inc (adV st V) 7 7) (inc (adV st V) 7 5) (rset Pb (V 7) (adV st V 5))
      rw [i5, i7]
      rcases (by omega : V 7 = 1 ∨ V 7 = 2) with q | q
      · rw [q]
        exact ⟨by omega, fun _ => by rw [rset_at]; omega, fun z => absurd z (by decide)⟩
      · rw [q]
        have := g2 (by omega)
        exact ⟨by omega, fun _ => by rw [rset_ne (by decide)]; omega, fun _ => by rw [rset_ne (by decide), rset_at]; omega⟩
  · rw [if_neg c, if_neg c]
    refine ⟨?_, ?_, ?_, fun z => absurd z (by show ¬ (0 : Int) ≤ -1; decide), ?_, ?_⟩
    · show 0 ≤ adV st V 5 ∧ 2 * adV st V 5 + (if (-1 : Int) < 0 then 0 else 1) ≤ k + 1 - bg
      rw [if_pos (by decide)]
      omega
    · show _ = adV st V 5 + (if (-1 : Int) < 0 then 0 else 1)
      rw [if_pos (by decide), f1]
      omega
    · show _ = adV st V 7
      rw [f2, a3]
    · show wdb S bg (k + 1) (adV st V 5) (adV st V 7) (adB st V B) (adN st k V N) Pb
      rw [f2]
      exact f4.ext (by omega) (fun _ _ _ _ _ => rfl)
    · show pbk (adV st V 7) (adV st V 5) Pb
      rw [f2]
      exact f5
