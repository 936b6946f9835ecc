theorem jst_it2 {u : List Int} : ∀ (m : Nat) (k : Int) (w : List Int), 0 ≤ k → k + m ≤ (u.length : Int) → w.length ≤ 60 → it (jst u) m k w = w ++ sl u k (min (m : Int) ((60 : Int) - w.length))
  | 0, k, w, h0, h1, h2 => by
    show w = _
    rw [sl_nil (by omega), List.append_nil]
  | m + 1, k, w, h0, h1, h2 => by
    show it (jst u) m (k + 1) (jst u k w) = _
    by_cases e : w.length < 60
    · rw [show jst u k w = w ++ [tg u k] from if_pos e, jst_it2 m (k + 1) _ (by omega) (by omega) (by rw [List.length_append]; show w.length + 1 ≤ 60; omega), List.append_assoc, show min ((m + 1 : Nat) : Int) ((60 : Int) - w.length) = min (m : Int) ((60 : Int) - ((w ++ [tg u k]).length : Int)) + 1 by rw [List.length_append]; show _ = min (m : Int) ((60 : Int) - ((w.length + 1 : Nat) : Int)) + 1; omega]
      rw [sl_cons h0 (by omega) (by rw [List.length_append]; show 0 ≤ min (m : Int) ((60 : Int) - ((w.length + 1 : Nat) : Int)); omega)]
      rfl
    · rw [show jst u k w = w from if_neg e, jst_it2 m (k + 1) w (by omega) (by omega) h2, sl_nil (by omega), sl_nil (by omega)]
theorem p_subl {N : Nat} {t : List Int} {f c : Int} (ht60 : t.length ≤ 60) (hf : -10000000000 ≤ f ∧ f ≤ 10000000000) (hc : 1 ≤ c ∧ c ≤ 10000000000) : ∀ (m n : Nat) (k : Int) (S : s_M) (T : Int → List Int), TX S T → T 82 = t → 0 ≤ k ∧ k ≤ 10000000000 → (k + m = min (f + c) (t.length : Int) ∨ (m = 0 ∧ min (f + c) (t.length : Int) ≤ k)) → m < n → ∃ S', A_substring_l47 N n c f k S = some (0, S') ∧ TX S' (lset T 84 (it (jst t) m k (T 84))) ∧ exT S S'
  | m, 0, k, S, T, h, hT, h0, h1, h2 => absurd h2 (Nat.not_lt_zero _)
  | 0, n + 1, k, S, T, h, hT, h0, h1, h2 => by
    have hl := h.len (k := 82) (by decide)
    rw [hT] at hl
    refine ⟨S, ?_, ?_, exT.refl S⟩
    · rw [A_substring_l47_e, chk_e (by omega)]
      by_cases e : k < f + c
      · rw [if_pos e, if_neg (by omega), A_substring_j129_e]
      · rw [if_neg e, A_substring_j129_e]
    · show TX S (lset T 84 (T 84))
      rw [lset_self]
      exact h
  | m + 1, n + 1, k, S, T, h, hT, h0, h1, h2 => by
    have hl := h.len (k := 82) (by decide)
    rw [hT] at hl
    have ha := p_att (N := N) h (t := 82) (k := k) (by decide) (by rw [hT]; omega)
    rw [hT] at ha
    obtain ⟨S1, a1, a2, a3⟩ := p_add (N := N) h (t := 84) (c := tg t k) (by decide)
    obtain ⟨S2, b1, b2, b3⟩ := p_subl (t := t) ht60 hf hc m n (k + 1) S1 _ a2 (by rw [lset_ne (by decide)]; exact hT) (by omega) (by omega) (by omega)
    rw [lset_at, lset_lset] at b2
    refine ⟨S2, ?_, b2, a3.trans b3⟩
    rw [A_substring_l47_e, chk_e (by omega), if_pos (by omega), if_pos (by omega), if_neg (by omega), A_substring_j81_e, chk_e (by omega), if_pos (by omega), if_pos (by omega), wi32_id (by omega), bnd_e ha, bnd_e a1, A_substring_j120_e, chk_e (by omega)]
    exact b1
theorem p_substring {N : Nat} (hN : 100 ≤ N) {S : s_M} {T : Int → List Int} (h : TX S T) {b c : Int} (hb : rI b) (hc : rI c) : ∃ S', A_substring N b c S = some (0, S') ∧ TX S' (lset T 84 (oof (T 82) b c)) ∧ exT S S' := by
  have hl := h.len (k := 82) (by decide)
  obtain ⟨c1, c2⟩ := h.clear (t := 84)
  have h82 : lset T 84 [] 82 = T 82 := lset_ne (by decide)
  have hl1 := c1.len (k := 82) (by decide)
  rw [h82] at hl1
  by_cases e0 : b = 0 ∨ c < 1
  · refine ⟨m_s S 3 84 0, ?_, ?_, c2⟩
    · rw [A_substring_e, bnd_e (p_clear (by decide))]
      by_cases e : b = 0
      · rw [if_pos e, A_substring_j15_e]
      · rw [if_neg e, if_pos (by omega), A_substring_j15_e]
    · rw [show oof (T 82) b c = [] from if_pos e0]
      exact c1
  · have hbg : ∃ bg : Int, (if 0 < b then b - 1 else ((T 82).length : Int) + b + 1 - c) = bg := ⟨_, rfl⟩
    obtain ⟨bg, hbg⟩ := hbg
    have hbr : -10000000000 ≤ bg ∧ bg ≤ 10000000000 := by
      rw [← hbg]
      split <;> omega
    have ho : oof (T 82) b c = it (jst (T 82)) (min (bg + c) ((T 82).length : Int) - max bg 0).toNat (max bg 0) [] := by
      have hu : oof (T 82) b c = (fun bg : Int => ([] : List Int) ++ sl (T 82) (max (max bg 0) 0) (min (min (min (max (bg + c) 0) ((T 82).length : Int)) ((T 82).length : Int) - max (max bg 0) 0) ((60 : Int) - ([] : List Int).length))) (if 0 < b then b - 1 else ((T 82).length : Int) + b + 1 - c) := if_neg e0
      rw [hu, hbg]
      show [] ++ sl (T 82) (max (max bg 0) 0) (min (min (min (max (bg + c) 0) ((T 82).length : Int)) ((T 82).length : Int) - max (max bg 0) 0) ((60 : Int) - ((0 : Nat) : Int))) = _
      by_cases em : min (bg + c) ((T 82).length : Int) ≤ max bg 0
      · rw [show (min (bg + c) ((T 82).length : Int) - max bg 0).toNat = 0 by omega, sl_nil (by omega)]
        rfl
      · rw [jst_it2 _ (max bg 0) [] (by omega) (by omega) (by decide)]
        show _ = [] ++ sl (T 82) (max bg 0) (min (((min (bg + c) ((T 82).length : Int) - max bg 0).toNat : Nat) : Int) ((60 : Int) - ((0 : Nat) : Int)))
        congr 2 <;> omega
    have go : ∃ S', A_substring_j43 N c bg (m_s S 3 84 0) = some (0, S') ∧ TX S' (lset T 84 (oof (T 82) b c)) ∧ exT (m_s S 3 84 0) S' := by
      obtain ⟨n', hn'⟩ : ∃ n', N = n' + 1 := ⟨N - 1, by omega⟩
      rw [A_substring_j43_e]
      by_cases eb : 0 ≤ bg
      · obtain ⟨S1, a1, a2, a3⟩ := p_subl (N := N) (t := T 82) (f := bg) (c := c) hl.2 hbr (by omega) (min (bg + c) ((T 82).length : Int) - bg).toNat N bg (m_s S 3 84 0) _ c1 h82 (by omega) (by omega) (by omega)
        rw [lset_at, lset_lset] at a2
        refine ⟨S1, a1, ?_, a3⟩
        rw [ho, show max bg 0 = bg by omega]
        exact a2
      · have hstep : A_substring_l47 N N c bg bg (m_s S 3 84 0) = A_substring_j81 N (A_substring_l47 N n') c bg 0 (m_s S 3 84 0) := by
          conv => lhs; rw [show A_substring_l47 N N c bg bg (m_s S 3 84 0) = A_substring_l47 N (n' + 1) c bg bg (m_s S 3 84 0) from by rw [← hn']]
          rw [A_substring_l47_e, chk_e (by omega), if_pos (by omega), if_pos (by omega), if_pos (by omega)]
        rw [hstep, A_substring_j81_e, chk_e (by omega)]
        by_cases em : min (bg + c) ((T 82).length : Int) ≤ 0
        · obtain ⟨S1, a1, a2, a3⟩ := p_subl (N := N) (t := T 82) (f := bg) (c := c) hl.2 hbr (by omega) 0 n' 1 (m_s S 3 84 0) _ c1 h82 (by omega) (by omega) (by omega)
          have a2' : TX S1 (lset (lset T 84 []) 84 (lset T 84 [] 84)) := a2
          rw [lset_at, lset_lset] at a2'
          refine ⟨S1, ?_, ?_, a3⟩
          · have hj : A_substring_j120 N (A_substring_l47 N n') c bg 0 (m_s S 3 84 0) = some (0, S1) := by
              rw [A_substring_j120_e, chk_e (by omega)]
              exact a1
            by_cases e1 : 0 < bg + c
            · rw [if_pos e1, if_neg (by omega)]
              exact hj
            · rw [if_neg e1]
              exact hj
          · rw [ho, show (min (bg + c) ((T 82).length : Int) - max bg 0).toNat = 0 by omega]
            exact a2'
        · have ha := p_att (N := N) c1 (t := 82) (k := 0) (by decide) (by rw [h82]; omega)
          rw [h82] at ha
          obtain ⟨S1, a1, a2, a3⟩ := p_add (N := N) c1 (t := 84) (c := tg (T 82) 0) (by decide)
          obtain ⟨S2, b1, b2, b3⟩ := p_subl (N := N) (t := T 82) (f := bg) (c := c) hl.2 hbr (by omega) (min (bg + c) ((T 82).length : Int) - 1).toNat n' 1 S1 _ a2 (by rw [lset_ne (by decide)]; exact h82) (by omega) (by omega) (by omega)
          rw [lset_at, lset_lset, lset_lset, lset_at] at b2
          refine ⟨S2, ?_, ?_, a3.trans b3⟩
          · rw [if_pos (by omega), if_pos (by omega), wi32_id (by decide), bnd_e ha, bnd_e a1, A_substring_j120_e, chk_e (by decide)]
            exact b1
          · rw [ho, show max bg 0 = 0 by omega, show (min (bg + c) ((T 82).length : Int) - 0).toNat = (min (bg + c) ((T 82).length : Int) - 1).toNat + 1 by omega]
            exact b2
    obtain ⟨S1, g1, g2, g3⟩ := go
    refine ⟨S1, ?_, g2, c2.trans g3⟩
    rw [A_substring_e, bnd_e (p_clear (by decide)), if_neg (fun z => e0 (Or.inl z)), if_neg (fun z => e0 (Or.inr z))]
    by_cases ep : 0 < b
    · rw [if_pos ep] at hbg
      rw [if_pos ep, chk_e (by omega), hbg]
      exact g1
    · rw [if_neg ep] at hbg
      rw [if_neg ep, hl1.1, chk_e (by omega), chk_e (by omega), chk_e (by omega), show ((T 82).length : Int) + b - c + 1 = bg by omega]
      exact g1
/-! The page. -/
def PX (S : s_M) (s : pgs) : Prop := S 0 44 = s.1 ∧ 0 ≤ s.1 ∧ S 0 45 = (s.2.1.length : Int) ∧ s.2.1.length ≤ 180 ∧ (∀ i : Int, 0 ≤ i → i < (s.2.1.length : Int) → S 26 i = tg s.2.1 i) ∧ ∀ i : Int, 0 ≤ i → i < s.1 → i < 24 → (s.2.2 i).length ≤ 180 ∧ S 27 i = ((s.2.2 i).length : Int) ∧ ∀ j : Int, 0 ≤ j → j < ((s.2.2 i).length : Int) → S 28 (180 * i + j) = tg (s.2.2 i) j
def exP (S S' : s_M) : Prop := ∀ q j : Int, q ≠ 26 → q ≠ 27 → q ≠ 28 → ¬ (q = 0 ∧ (j = 44 ∨ j = 45)) → S' q j = S q j
theorem exP.refl (S : s_M) : exP S S := fun _ _ _ _ _ _ => rfl
theorem exP.trans {A B C : s_M} (h1 : exP A B) (h2 : exP B C) : exP A C := fun k j a b c d => (h2 k j a b c d).trans (h1 k j a b c d)
theorem exP.put {S : s_M} {q j x : Int} (h : q = 26 ∨ q = 27 ∨ q = 28 ∨ (q = 0 ∧ (j = 44 ∨ j = 45))) : exP S (m_s S q j x) := fun q' j' a b c d => m_s_n (fun z => by
  obtain ⟨z1, z2⟩ := z
  subst z1
  subst z2
  rcases h with h | h | h | h
  · exact a h
  · exact b h
  · exact c h
  · exact d h)
/-- the line at hand goes to the kept lines -/
def cpL (S : s_M) (b k n : Int) : s_M := fun q j => if q = 28 ∧ 180 * b + k ≤ j ∧ j < 180 * b + n then S 26 (j - 180 * b) else S q j
theorem p_endl {N : Nat} {b : Int} (hb : 0 ≤ b ∧ b < 24) : ∀ (m n : Nat) (k : Int) (S : s_M), S 0 44 = b → 0 ≤ k → k + m ≤ 180 → m < n → A_ends_l21 N n (k + m) k S = some (0, m_s (m_s (cpL S b k (k + m)) 0 44 (b + 1)) 0 45 0)
  | m, 0, k, S, h, h0, h1, h2 => absurd h2 (Nat.not_lt_zero _)
  | 0, n + 1, k, S, h, h0, h1, h2 => by
    have : cpL S b k (k + ((0 : Nat) : Int)) = S := by
      funext q j
      exact if_neg (by omega)
    rw [A_ends_l21_e, if_neg (by omega), A_ends_j53_e, h, chk_e (by omega), this]
  | m + 1, n + 1, k, S, h, h0, h1, h2 => by
    rw [A_ends_l21_e, if_pos (by omega), h, chk_e (by omega), chk_e (by omega), chk_e (by omega), chk_e (by omega), chk_e (by omega)]
    rw [show k + ((m + 1 : Nat) : Int) = k + 1 + (m : Int) by omega, p_endl hb m n (k + 1) (m_s S 28 (180 * b + k) (S 26 k)) ((m_sk (by decide)).trans h) (by omega) (by omega) (by omega)]
    congr 4
    funext q j
    unfold cpL
    by_cases e8 : q = 28
    · rw [e8]
      by_cases e1 : 180 * b + (k + 1) ≤ j ∧ j < 180 * b + (k + 1 + (m : Int))
      · rw [if_pos ⟨rfl, e1⟩, if_pos ⟨rfl, by omega⟩, m_sk (by decide)]
      · rw [if_neg (fun z => e1 z.2)]
        by_cases e3 : j = 180 * b + k
        · rw [e3, m_s_s, if_pos ⟨rfl, by omega⟩]
          congr 1
          omega
        · rw [m_sj e3, if_neg (by omega)]
    · rw [if_neg (fun z => e8 z.1), if_neg (fun z => e8 z.1), m_sk e8]
theorem p_ends {N : Nat} (hN : 1000 ≤ N) {S : s_M} {s : pgs} (h : PX S s) (hn : s.1 < 2147480000) {e : Nat} (he : e ≤ s.2.1.length) : ∃ S', A_ends N (e : Int) S = some (0, S') ∧ PX S' (s.1 + 1, [], kpK s.1 s.2.2 (s.2.1.take e)) ∧ exP S S' ∧ ∀ j, S' 26 j = S 26 j := by
  obtain ⟨h1, h2, h3, h4, h5, h6⟩ := h
  by_cases e24 : s.1 < 24
  · have hl := p_endl (N := N) (b := s.1) ⟨h2, e24⟩ e N 0 (m_s S 27 s.1 (e : Int)) ((m_sk (by decide)).trans h1) (by omega) (by omega) (by omega)
    rw [show (0 : Int) + (e : Int) = (e : Int) by omega] at hl
    refine ⟨_, by rw [A_ends_e, h1, if_pos e24, chk_e ⟨h2, e24⟩]; exact hl, ?_, ?_, ?_⟩
    · refine ⟨?_, by show 0 ≤ s.1 + 1; omega, m_s_s, by show 0 ≤ 180; omega, fun i i0 i1 => absurd i1 (by show ¬ i < ((0 : Nat) : Int); omega), fun i i0 i1 i2 => ?_⟩
      · rw [m_sj (by decide), m_s_s]
      · have i3 : i < s.1 + 1 := i1
        show ((kpK s.1 s.2.2 (s.2.1.take e)) i).length ≤ 180 ∧ _ = (((kpK s.1 s.2.2 (s.2.1.take e)) i).length : Int) ∧ ∀ j : Int, 0 ≤ j → j < (((kpK s.1 s.2.2 (s.2.1.take e)) i).length : Int) → _ = tg ((kpK s.1 s.2.2 (s.2.1.take e)) i) j
        rw [show kpK s.1 s.2.2 (s.2.1.take e) = lset s.2.2 s.1 (s.2.1.take e) from if_pos e24]
        by_cases ei : i = s.1
        · rw [ei, lset_at, List.length_take, show min e s.2.1.length = e by omega]
          refine ⟨by omega, ?_, fun j j0 j1 => ?_⟩
          · rw [m_sk (by decide), m_sk (by decide)]
            unfold cpL
            rw [if_neg (fun z => absurd z.1 (by decide)), m_s_s]
          · rw [m_sk (by decide), m_sk (by decide)]
            unfold cpL
            rw [if_pos ⟨rfl, by omega⟩, m_sk (by decide), show 180 * s.1 + j - 180 * s.1 = j by omega, h5 j j0 (by omega), tg_take (by omega)]
        · obtain ⟨a1, a2, a3⟩ := h6 i i0 (by omega) i2
          rw [lset_ne ei]
          refine ⟨a1, ?_, fun j j0 j1 => ?_⟩
          · rw [m_sk (by decide), m_sk (by decide)]
            unfold cpL
            rw [if_neg (fun z => absurd z.1 (by decide)), m_sj ei, a2]
          · rw [m_sk (by decide), m_sk (by decide)]
            unfold cpL
            rw [if_neg (by omega), m_sk (by decide)]
            exact a3 j j0 j1
    · intro q j q1 q2 q3 q4
      rw [m_s_n (fun z => q4 ⟨z.1, Or.inr z.2⟩), m_s_n (fun z => q4 ⟨z.1, Or.inl z.2⟩)]
      unfold cpL
      rw [if_neg (fun z => q3 z.1), m_sk q2]
    · intro j
      rw [m_sk (by decide), m_sk (by decide)]
      unfold cpL
      rw [if_neg (fun z => absurd z.1 (by decide)), m_sk (by decide)]
  · refine ⟨m_s (m_s S 0 44 (s.1 + 1)) 0 45 0, by rw [A_ends_e, h1, if_neg e24, A_ends_j53_e, h1, chk_e (by omega)], ?_, (exP.put (by omega)).trans (exP.put (by omega)), fun j => by rw [m_sk (by decide), m_sk (by decide)]⟩
    refine ⟨?_, by show 0 ≤ s.1 + 1; omega, m_s_s, by show 0 ≤ 180; omega, fun i i0 i1 => absurd i1 (by show ¬ i < ((0 : Nat) : Int); omega), fun i i0 i1 i2 => ?_⟩
    · rw [m_sj (by decide), m_s_s]
    · have i3 : i < s.1 + 1 := i1
      obtain ⟨a1, a2, a3⟩ := h6 i i0 (by omega) i2
      show ((kpK s.1 s.2.2 (s.2.1.take e)) i).length ≤ 180 ∧ _ = (((kpK s.1 s.2.2 (s.2.1.take e)) i).length : Int) ∧ ∀ j : Int, 0 ≤ j → j < (((kpK s.1 s.2.2 (s.2.1.take e)) i).length : Int) → _ = tg ((kpK s.1 s.2.2 (s.2.1.take e)) i) j
      rw [show kpK s.1 s.2.2 (s.2.1.take e) = s.2.2 from if_neg e24]
      exact ⟨a1, by rw [m_sk (by decide), m_sk (by decide), a2], fun j j0 j1 => by rw [m_sk (by decide), m_sk (by decide)]; exact a3 j j0 j1⟩
