theorem tg_ext {t u : List Int} (hl : t.length = u.length) (h : ∀ i : Int, 0 ≤ i → i < (t.length : Int) → tg t i = tg u i) : t = u := by
  apply List.ext_getElem hl
  intro i h1 h2
  have := h (i : Int) (by omega) (by omega)
  rw [tg_in h1, tg_in h2] at this
  exact this
def eqf (t u : List Int) : Nat → Int → Bool
  | 0, _ => true
  | m + 1, k => if tg t k = tg u k then eqf t u m (k + 1) else false
theorem eqf_iff {t u : List Int} : ∀ (m : Nat) (k : Int), eqf t u m k = true ↔ ∀ i : Int, k ≤ i → i < k + m → tg t i = tg u i
  | 0, k => ⟨fun _ i i0 i1 => absurd i1 (by omega), fun _ => rfl⟩
  | m + 1, k => by
    unfold eqf
    by_cases e : tg t k = tg u k
    · rw [if_pos e, eqf_iff m (k + 1)]
      constructor
      · intro h i i0 i1
        by_cases ei : i = k
        · rw [ei]; exact e
        · exact h i (by omega) (by omega)
      · intro h i i0 i1
        exact h i (by omega) (by omega)
    · rw [if_neg e]
      constructor
      · intro h
        exact Bool.noConfusion h
      · intro h
        exact absurd (h k (Int.le_refl _) (by omega)) e
theorem p_samel {N : Nat} {S : s_M} {T : Int → List Int} (h : TX S T) {a b : Int} (ha : 0 ≤ a ∧ a < 85) (hb : 0 ≤ b ∧ b < 85) (hl : (T a).length = (T b).length) : ∀ (m n : Nat) (k : Int), 0 ≤ k → k + m = ((T a).length : Int) → m < n → A_same_l24 N n a b 1 k S = some (s_b (eqf (T a) (T b) m k), S)
  | m, 0, k, h0, h1, h2 => absurd h2 (Nat.not_lt_zero _)
  | 0, n + 1, k, h0, h1, h2 => by
    have := h.len ha
    rw [A_same_l24_e, if_neg (by decide), chk_e ha, if_neg (by omega), A_same_j68_e, chk_e (by decide)]
    rfl
  | m + 1, n + 1, k, h0, h1, h2 => by
    have := h.len ha
    rw [A_same_l24_e, if_neg (by decide), chk_e ha, if_pos (by omega), bnd_e (p_att h ha ⟨h0, by omega⟩), bnd_e (p_att h hb ⟨h0, by omega⟩), chk_e (by omega)]
    unfold eqf
    by_cases e : tg (T a) k = tg (T b) k
    · rw [if_pos e, if_pos e]
      exact p_samel h ha hb hl m n (k + 1) (by omega) (by omega) (by omega)
    · rw [if_neg e, if_neg e]
      obtain ⟨n', rfl⟩ : ∃ n', n = n' + 1 := ⟨n - 1, by omega⟩
      rw [A_same_l24_e, if_pos rfl, A_same_j68_e, chk_e (by decide)]
      rfl
theorem p_same {N : Nat} (hN : 100 ≤ N) {S : s_M} {T : Int → List Int} (h : TX S T) {a b : Int} (ha : 0 ≤ a ∧ a < 85) (hb : 0 ≤ b ∧ b < 85) : A_same N a b S = some (s_b (decide (T a = T b)), S) := by
  obtain ⟨la, la2⟩ := h.len ha
  obtain ⟨lb, lb2⟩ := h.len hb
  rw [A_same_e, chk_e ha, chk_e hb]
  by_cases e : (T a).length = (T b).length
  · rw [if_pos (by omega), p_samel h ha hb e (T a).length N 0 (by omega) (by omega) (by omega)]
    congr 3
    rw [Bool.eq_iff_iff, eqf_iff, decide_eq_true_eq]
    constructor
    · intro q
      exact tg_ext e (fun i i0 i1 => q i i0 (by omega))
    · intro q i _ _
      rw [q]
  · rw [if_neg (by omega)]
    obtain ⟨n', rfl⟩ : ∃ n', N = n' + 1 := ⟨N - 1, by omega⟩
    rw [A_same_l24_e, if_pos rfl, A_same_j68_e, chk_e (by decide), decide_eq_false (fun q => e (by rw [q]))]
    rfl
theorem gst_it {t u : List Int} : ∀ (m : Nat) (i d : Int), (eqf t u m i = true ∧ it (gst t u) m i (true, d) = (true, d)) ∨ (eqf t u m i = false ∧ (it (gst t u) m i (true, d)).2 ≠ 0)
  | 0, i, d => Or.inl ⟨rfl, rfl⟩
  | m + 1, i, d => by
    show (eqf t u (m + 1) i = true ∧ it (gst t u) m (i + 1) (gst t u i (true, d)) = (true, d)) ∨ (eqf t u (m + 1) i = false ∧ (it (gst t u) m (i + 1) (gst t u i (true, d))).2 ≠ 0)
    unfold eqf
    by_cases e : tg t i = tg u i
    · rw [if_pos e, show gst t u i (true, d) = (true, d) from (if_pos rfl).trans (if_pos e)]
      exact gst_it m (i + 1) d
    · rw [if_neg e, show gst t u i (true, d) = (false, tg t i - tg u i) from (if_pos rfl).trans (if_neg e), it_abs (gst t u) (s := (false, tg t i - tg u i)) (fun j => if_neg (by decide : ¬ (false : Bool) = true))]
      exact Or.inr ⟨rfl, by show tg t i - tg u i ≠ 0; omega⟩
theorem gof_eq {t u : List Int} : gof t u = 0 ↔ t = u := by
  unfold gof
  rcases gst_it (t := t) (u := u) (min (t.length : Int) u.length - 0).toNat 0 ((t.length : Int) - u.length) with h | h
  · rw [h.2]
    show (t.length : Int) - u.length = 0 ↔ t = u
    constructor
    · intro e
      exact tg_ext (by omega) (fun i i0 i1 => (eqf_iff _ _).mp h.1 i i0 (by omega))
    · intro e
      rw [e]
      omega
  · constructor
    · intro e
      exact absurd e h.2
    · intro e
      have : eqf t u (min (t.length : Int) u.length - 0).toNat 0 = true := (eqf_iff _ _).mpr (fun i _ _ => by rw [e])
      rw [h.1] at this
      exact Bool.noConfusion this
theorem p_compares {N : Nat} (hN : 100 ≤ N) {S : s_M} {T : Int → List Int} {k : skT} (h : QX S T k) : ∃ S' T', A_compares N S = some (0, S') ∧ QX S' T' (sG (0, s_b (smA (vA (sTA k)) (vA k)), []) (sTA (sTA k))) ∧ exK S S' ∧ ∀ q, q < 70 → T' q = T q := by
  obtain ⟨S1, a1, a2, a3, a4⟩ := p_any (N := N) hN h (t := 83) (by decide)
  obtain ⟨S2, b1, b2, b3, b4⟩ := p_any (N := N) hN a2 (t := 82) (by decide)
  have k1 := vA_ok h
  have k2 := vA_ok a2
  obtain ⟨S3, c1, c2, c3⟩ := p_giveNumber (N := N) b2 (q := s_b (smA (vA (sTA k)) (vA k))) (rI_b _)
  have hT : ∀ q, q < 70 → lset (lset T 83 (vA k).2.2) 82 (vA (sTA k)).2.2 q = T q := fun q hq => by rw [lset_ne (by omega), lset_ne (by omega)]
  refine ⟨S3, _, ?_, c2, (a3.trans b3).trans c3, hT⟩
  rw [A_compares_e, bnd_e a1, bnd_e b1, a4, b4]
  have fin1 : A_compares_j85 N S2 = bnd (A_giveNumber N 1 S2) (fun v S' => some (0, S')) := by rw [A_compares_j85_e, A_compares_j90_e]
  have fin0 : A_compares_j89 N S2 = bnd (A_giveNumber N 0 S2) (fun v S' => some (0, S')) := by rw [A_compares_j89_e, A_compares_j90_e]
  have go : ∀ b : Bool, smA (vA (sTA k)) (vA k) = b → bnd (A_giveNumber N (s_b b) S2) (fun v S' => some (0, S')) = some (0, S3) := fun b e => by rw [← e, bnd_e c1]
  by_cases e1 : (vA k).1 = 0
  · by_cases e2 : (vA (sTA k)).1 = 0
    · rw [if_pos e1, if_pos e2, if_neg (by decide)]
      have hs : smA (vA (sTA k)) (vA k) = decide ((vA (sTA k)).1 = (vA k).1 ∧ (vA (sTA k)).2.1 = (vA k).2.1) := if_pos (Or.inl e2)
      by_cases e3 : (vA k).2.1 = (vA (sTA k)).2.1
      · rw [if_pos e3, fin1]
        exact go true (hs.trans (decide_eq_true ⟨by rw [e1, e2], e3.symm⟩))
      · rw [if_neg e3, fin0]
        exact go false (hs.trans (decide_eq_false (fun q => e3 q.2.symm)))
    · rw [if_pos e1, if_neg e2, if_pos rfl, if_pos e1, if_neg (by decide), fin0]
      exact go false ((if_pos (Or.inr e1)).trans (decide_eq_false (fun q => e2 (by rw [q.1, e1]))))
  · rw [if_neg e1, if_pos rfl, if_neg e1]
    by_cases e2 : (vA (sTA k)).1 = 0
    · rw [if_pos e2, if_neg (by decide), fin0]
      exact go false ((if_pos (Or.inl e2)).trans (decide_eq_false (fun q => e1 (by rw [← q.1, e2]))))
    · rw [if_neg e2, if_pos rfl, bnd_e (p_same hN b2.1 (a := 82) (b := 83) (by decide) (by decide)), lset_at, lset_ne (by decide), lset_at]
      have hs : smA (vA (sTA k)) (vA k) = decide (gof (vA (sTA k)).2.2 (vA k).2.2 = 0) := if_neg (fun q => q.elim e2 e1)
      by_cases e3 : (vA (sTA k)).2.2 = (vA k).2.2
      · rw [decide_eq_true e3, if_neg (by decide), fin1]
        exact go true (hs.trans (decide_eq_true (gof_eq.mpr e3)))
      · rw [decide_eq_false e3, if_pos (by decide), fin0]
        exact go false (hs.trans (decide_eq_false (fun q => e3 (gof_eq.mp q))))
theorem p_exchanges {N : Nat} (hN : 100 ≤ N) {S : s_M} {T : Int → List Int} {k : skT} (h : QX S T k) (b : Bool) : ∃ S' T', A_exchanges N (s_b b) S = some (0, S') ∧ QX S' T' (if b = true then sG (vA k) (sG (vA k) (sTA k)) else sG (vA (sTA k)) (sG (vA k) (sTA (sTA k)))) ∧ exK S S' ∧ ∀ q, q < 70 → T' q = T q := by
  obtain ⟨S1, a1, a2, a3, a4⟩ := p_any (N := N) hN h (t := 83) (by decide)
  have k1 := vA_ok h
  cases b with
  | true =>
    obtain ⟨S2, T2, b1, b2, b3, b4⟩ := p_giveAny (N := N) hN a2 k1 (t := 83) (by decide) lset_at
    obtain ⟨S3, T3, c1, c2, c3, c4⟩ := p_giveAny (N := N) hN b2 k1 (t := 83) (by decide) (by rw [b4 83 (by omega), lset_at])
    refine ⟨S3, T3, ?_, c2, (a3.trans b3).trans c3, fun q hq => by rw [c4 q (by omega), b4 q (by omega), lset_ne (by omega)]⟩
    rw [A_exchanges_e, bnd_e a1, if_neg (by decide), A_exchanges_j26_e, a4, bnd_e b1, if_neg (by decide), if_neg (by decide), bnd_e c1]
  | false =>
    obtain ⟨S2, b1, b2, b3, b4⟩ := p_any (N := N) hN a2 (t := 82) (by decide)
    have k2 := vA_ok a2
    obtain ⟨S3, T3, c1, c2, c3, c4⟩ := p_giveAny (N := N) hN b2 k1 (t := 83) (by decide) (by rw [lset_ne (by decide), lset_at])
    obtain ⟨S4, T4, d1, d2, d3, d4⟩ := p_giveAny (N := N) hN c2 k2 (t := 82) (by decide) (by rw [c4 82 (by omega), lset_at])
    refine ⟨S4, T4, ?_, d2, ((a3.trans b3).trans c3).trans d3, fun q hq => by rw [d4 q (by omega), c4 q (by omega), lset_ne (by omega), lset_ne (by omega)]⟩
    rw [A_exchanges_e, bnd_e a1, if_pos (by decide), bnd_e b1, A_exchanges_j26_e, a4, bnd_e c1, if_pos (by decide), if_pos (by decide), b4, bnd_e d1]
/-- one text behind another, as far as there is room -/
def jst (u : List Int) (i : Int) (w : List Int) : List Int := ta 60 w (tg u i)
theorem sl_cons {u : List Int} {k q : Int} (h0 : 0 ≤ k) (h1 : k < (u.length : Int)) (hq : 0 ≤ q) : sl u k (q + 1) = tg u k :: sl u (k + 1) q := by
  obtain ⟨n, rfl⟩ := Int.eq_ofNat_of_zero_le h0
  have hn : n < u.length := by omega
  unfold sl
  rw [show ((n : Int)).toNat = n by omega, show ((n : Int) + 1).toNat = n + 1 by omega, show (q + 1).toNat = q.toNat + 1 by omega, List.drop_eq_getElem_cons hn, List.take_succ_cons, tg_in hn]
theorem sl_nil {u : List Int} {k q : Int} (h : q ≤ 0) : sl u k q = [] := by
  unfold sl
  rw [show q.toNat = 0 by omega, List.take_zero]
theorem jst_it {u : List Int} : ∀ (m : Nat) (k : Int) (w : List Int), 0 ≤ k → k + m = (u.length : Int) → w.length ≤ 60 → it (jst u) m k w = w ++ sl u k (min (m : Int) ((60 : Int) - w.length))
  | 0, k, w, h0, h1, h2 => by
    show w = _
    rw [sl_nil (by omega), List.append_nil]
  | m + 1, k, w, h0, h1, h2 => by
    show it (jst u) m (k + 1) (jst u k w) = _
    by_cases e : w.length < 60
    · rw [show jst u k w = w ++ [tg u k] from if_pos e, jst_it m (k + 1) _ (by omega) (by omega) (by rw [List.length_append]; show w.length + 1 ≤ 60; omega), List.append_assoc, show min ((m + 1 : Nat) : Int) ((60 : Int) - w.length) = min (m : Int) ((60 : Int) - ((w ++ [tg u k]).length : Int)) + 1 by rw [List.length_append]; show _ = min (m : Int) ((60 : Int) - ((w.length + 1 : Nat) : Int)) + 1; omega]
      rw [sl_cons h0 (by omega) (by rw [List.length_append]; show 0 ≤ min (m : Int) ((60 : Int) - ((w.length + 1 : Nat) : Int)); omega)]
      rfl
    · rw [show jst u k w = w from if_neg e, jst_it m (k + 1) w (by omega) (by omega) h2, sl_nil (by omega), sl_nil (by omega)]
theorem jnt_it {t u : List Int} (h : t.length ≤ 60) : jnt t u = it (jst u) ((u.length : Int) - 0).toNat 0 t := by
  rw [jst_it _ 0 t (by omega) (by omega) h]
  unfold jnt
  congr 2
  omega
theorem prt_ta {w : List Int} {c : Int} (h : prt w) (hc : 32 ≤ c ∧ c ≤ 126) : prt (ta 60 w c) := by
  unfold ta
  split
  · intro i i0 i1
    rw [List.length_append] at i1
    have i2 : i < ((w.length + 1 : Nat) : Int) := i1
    rw [tg_app]
    split
    · exact hc
    · exact h i i0 (by omega)
  · exact h
theorem TX.same {S : s_M} {T T' : Int → List Int} (h : TX S T) (e : ∀ q, T' q = T q) : TX S T' := by
  rw [show T' = T from funext e]
  exact h
theorem QX.txt {S S' : s_M} {T T' : Int → List Int} {k : skT} (h : QX S T k) (ht : TX S' T') (e : exT S S') (eT : ∀ j, 0 ≤ j → j < 12 → T' (70 + j) = T (70 + j)) : QX S' T' k := by
  obtain ⟨h1, h2, h3, h4, h5⟩ := h
  exact ⟨ht, h2.ex (fun j => e 1 j (by decide) (by decide)), (e 0 26 (by decide) (by decide)).trans h3, h4, fun j j0 j1 => (h5 j j0 j1).ex (e 16 j (by decide) (by decide)) (e 17 j (by decide) (by decide)) (eT j j0 (by omega))⟩
theorem p_joinl {N : Nat} (hN : 100 ≤ N) {k : skT} {u : List Int} (hu : prt u) : ∀ (m n : Nat) (i : Int) (S : s_M) (T : Int → List Int), QX S T k → T 83 = u → prt (T 82) → 0 ≤ i → i + m = (u.length : Int) → m < n → ∃ S' T', A_joined_l14 N n i S = some (0, S') ∧ QX S' T' (sG (1, 0, it (jst u) m i (T 82)) k) ∧ exK S S' ∧ ∀ q, q < 70 → T' q = T q
  | m, 0, i, S, T, h, hT, hp, h0, h1, h2 => absurd h2 (Nat.not_lt_zero _)
  | 0, n + 1, i, S, T, h, hT, hp, h0, h1, h2 => by
    have hl := h.1.len (k := 83) (by decide)
    rw [hT] at hl
    obtain ⟨S1, T1, a1, a2, a3, a4⟩ := p_giveText (N := N) hN h (t := 82) (by decide) hp
    exact ⟨S1, T1, by rw [A_joined_l14_e, if_neg (by omega), bnd_e a1], a2, a3, fun q hq => a4 q (Or.inl hq)⟩
  | m + 1, n + 1, i, S, T, h, hT, hp, h0, h1, h2 => by
    have hl := h.1.len (k := 83) (by decide)
    rw [hT] at hl
    obtain ⟨S1, a1, a2, a3⟩ := p_add (N := N) h.1 (t := 82) (c := tg u i) (by decide)
    have hQ : QX S1 (lset T 82 (ta 60 (T 82) (tg u i))) k := h.txt a2 a3 (fun j j0 j1 => lset_ne (by omega))
    obtain ⟨S2, T2, b1, b2, b3, b4⟩ := p_joinl hN hu m n (i + 1) S1 _ hQ (by rw [lset_ne (by decide)]; exact hT) (by rw [lset_at]; exact prt_ta hp (hu i h0 (by omega))) (by omega) (by omega) (by omega)
    rw [lset_at] at b2
    refine ⟨S2, T2, ?_, b2, a3.exK.trans b3, fun q hq => by rw [b4 q hq, lset_ne (by omega)]⟩
    rw [A_joined_l14_e, if_pos (by omega), bnd_e (p_att h.1 (t := 83) (k := i) (by decide) (by rw [hT]; exact ⟨h0, by omega⟩)), hT, bnd_e a1, chk_e (by omega), b1]
theorem p_joined {N : Nat} (hN : 100 ≤ N) {S : s_M} {T : Int → List Int} {k : skT} (h : QX S T k) : ∃ S' T', A_joined N S = some (0, S') ∧ QX S' T' (sG (1, 0, jnt (vT (sTT k)) (vT k)) (sTT (sTT k))) ∧ exK S S' ∧ ∀ q, q < 70 → T' q = T q := by
  obtain ⟨S1, a1, a2, a3, a4, a5⟩ := p_taken (N := N) hN h (t := 83) (by decide)
  obtain ⟨S2, b1, b2, b3, b4, b5⟩ := p_taken (N := N) hN a2 (t := 82) (by decide)
  obtain ⟨S3, T3, c1, c2, c3, c4⟩ := p_joinl (N := N) hN a4 (vT k).length N 0 S2 _ b2 (by rw [lset_ne (by decide), lset_at]) (by rw [lset_at]; exact b4) (by omega) (by omega) (by omega)
  rw [lset_at] at c2
  rw [jnt_it b5, show (((vT k).length : Int) - 0).toNat = (vT k).length by omega]
  refine ⟨S3, T3, ?_, c2, (a3.trans b3).trans c3, fun q hq => by rw [c4 q hq, lset_ne (by omega), lset_ne (by omega)]⟩
  rw [A_joined_e, bnd_e a1, bnd_e b1, c1]
theorem p_emptyl {N : Nat} {k : skT} : ∀ (m n : Nat) (i : Int) (b : Bool) (S : s_M) (T : Int → List Int), QX S T k → prt (T 82) → 0 ≤ i → i + m = ((T 82).length : Int) → m < n → ∃ S', A_empties_l22 N n (s_b b) i S = some (0, S') ∧ QX S' T (sG (0, s_b (it (fun i b => b && p_bl (tg (T 82) i)) m i b), []) k) ∧ exK S S'
  | m, 0, i, b, S, T, h, hp, h0, h1, h2 => absurd h2 (Nat.not_lt_zero _)
  | 0, n + 1, i, b, S, T, h, hp, h0, h1, h2 => by
    have hl := h.1.len (k := 82) (by decide)
    obtain ⟨S1, a1, a2, a3⟩ := p_giveNumber (N := N) h (q := s_b b) (rI_b b)
    refine ⟨S1, ?_, a2, a3⟩
    rw [A_empties_l22_e, if_neg (by omega), show (if s_b b = 0 then (0 : Int) else 1) = s_b b from by cases b <;> rfl, bnd_e a1]
  | m + 1, n + 1, i, b, S, T, h, hp, h0, h1, h2 => by
    have hl := h.1.len (k := 82) (by decide)
    have hc := hp i h0 (by omega)
    have hb : p_bl (tg (T 82) i) = decide (tg (T 82) i = 32) := by
      unfold p_bl
      rw [decide_eq_decide]
      omega
    obtain ⟨S1, a1, a2, a3⟩ := p_emptyl m n (i + 1) (b && p_bl (tg (T 82) i)) S T h hp (by omega) (by omega) (by omega)
    refine ⟨S1, ?_, a2, a3⟩
    rw [A_empties_l22_e, if_pos (by omega)]
    cases b with
    | false =>
      rw [if_pos (by decide), A_empties_j53_e, A_empties_j54_e, chk_e (by omega)]
      exact a1
    | true =>
      rw [if_neg (by decide), bnd_e (p_att h.1 (t := 82) (k := i) (by decide) ⟨h0, by omega⟩)]
      rw [hb] at a1
      by_cases e : tg (T 82) i = 32
      · rw [if_pos e, A_empties_j54_e, chk_e (by omega)]
        rw [decide_eq_true e] at a1
        exact a1
      · rw [if_neg e, A_empties_j53_e, A_empties_j54_e, chk_e (by omega)]
        rw [decide_eq_false e] at a1
        exact a1
theorem hsb (x : Int) : (if x = 0 then (0 : Int) else 1) = s_b (!decide (x = 0)) := by
  by_cases e : x = 0
  · rw [if_pos e, decide_eq_true e]
    rfl
  · rw [if_neg e, decide_eq_false e]
    rfl
theorem p_empties {N : Nat} (hN : 100 ≤ N) {S : s_M} {T : Int → List Int} {k : skT} (h : QX S T k) : ∃ S' T', A_empties N S = some (0, S') ∧ QX S' T' (sG (0, s_b (nth_ (vA k)), []) (sTA k)) ∧ exK S S' ∧ ∀ q, q < 70 → T' q = T q := by
  obtain ⟨S1, a1, a2, a3, a4⟩ := p_any (N := N) hN h (t := 82) (by decide)
  have k1 := vA_ok h
  have hp : prt (vA k).2.2 := by
    rcases k1 with q | q | q
    · rw [q.2.1]; exact prt_nil
    · exact q.2.2.1
    · rw [q.2.2]; exact prt_nil
  have hl := (a2.1.len (k := 82) (by decide)).2
  rw [lset_at] at hl
  obtain ⟨S2, b1, b2, b3⟩ := p_emptyl (N := N) (vA k).2.2.length N 0 (!decide ((vA k).1 = 0)) S1 _ a2 (by rw [lset_at]; exact hp) (by omega) (by rw [lset_at]; omega) (by omega)
  have hn : nth_ (vA k) = it (fun i b => b && p_bl (tg (lset T 82 (vA k).2.2 82) i)) (vA k).2.2.length 0 (!decide ((vA k).1 = 0)) := by
    rw [lset_at]
    unfold nth_ allT
    rw [show (((vA k).2.2.length : Int) - 0).toNat = (vA k).2.2.length by omega]
    cases e : (!decide ((vA k).1 = 0)) with
    | true => rw [Bool.true_and]
    | false =>
      rw [Bool.false_and, it_abs (fun i b => b && p_bl (tg (vA k).2.2 i)) (s := false) (fun j => rfl)]
  rw [← hn] at b2
  refine ⟨S2, _, ?_, b2, a3.trans b3, fun q hq => lset_ne (by omega)⟩
  rw [A_empties_e, bnd_e a1, a4, show (if (vA k).1 = 0 then (0 : Int) else 1) = s_b (!decide ((vA k).1 = 0)) from hsb _]
  exact b1
