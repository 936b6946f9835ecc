theorem gsw_f {w : Int} : ∀ (m : Nat) (i : Int) (g : Bool), it (gsw w) m i (g, false) = (g, false)
  | 0, i, g => rfl
  | m + 1, i, g => gsw_f m (i + 1) g
theorem p_citl {N : Nat} {v : Int} (hv : 0 ≤ v ∧ v < 9223372036854775808) {S : s_M} : ∀ (m k : Nat) (i : Int) (g b : Bool), 0 ≤ i → i + m = 8 → m < k → A_cite_l29 N k v (s_b g) (s_b b) i S = A_cite_j98 N v (s_b (it (gsw v) m i (g, b)).1) S
  | m, 0, i, g, b, h0, hm, hk => absurd hk (Nat.not_lt_zero _)
  | 0, k + 1, i, g, b, h0, hm, hk => by
    rw [A_cite_l29_e, if_neg (by omega)]
    rfl
  | m + 1, k + 1, i, g, b, h0, hm, hk => by
    rw [A_cite_l29_e, if_pos (by omega)]
    cases b with
    | false =>
      rw [if_pos (by decide), gsw_f]
    | true =>
      have hu : u64 v = v := Int.emod_eq_of_lt hv.1 (by omega)
      rw [if_neg (by decide), chk_e (by omega), chk_e (by omega), bt_eq (by omega), hu]
      have e1 : (if by_ v i = 0 then (0 : Int) else 1) = s_b (decide (by_ v i ≠ 0)) := by
        by_cases q : by_ v i = 0
        · rw [if_pos q, decide_eq_false (fun z => z q)]
          rfl
        · rw [if_neg q, decide_eq_true q]
          rfl
      have e2 : (if s_b g = 0 then (0 : Int) else (if s_b (decide (by_ v i ≠ 0)) = 0 then (1 : Int) else (if (p_wc (by_ v i)) = true then (1 : Int) else 0))) = s_b (g && (!decide (by_ v i ≠ 0) || p_wc (by_ v i))) := by
        cases g with
        | false => rfl
        | true =>
          cases decide (by_ v i ≠ 0) with
          | false => rfl
          | true =>
            rw [if_neg (by decide), if_neg (by decide)]
            cases p_wc (by_ v i) <;> rfl
      rw [e1, e2, p_citl hv m k (i + 1) _ _ (by omega) (by omega) (by omega)]
      show _ = A_cite_j98 N v (s_b (it (gsw v) m (i + 1) (gsw v i (g, true))).1) S
      rfl
theorem p_cit2 {N : Nat} {S : s_M} {nc w : Int} {WC : Int → Int} (h : ctx S nc WC) : ∀ (m k : Nat) (i : Int), 0 ≤ i → i + m = nc → m < k → A_cite_l120 N k w i S = if 0 ≤ fi WC w m i then some (0, S) else (if nc = 10 then some (0, m_s S 0 0 2) else some (1, m_s (m_s S 10 nc w) 0 13 (nc + 1)))
  | m, 0, i, h0, hm, hk => absurd hk (Nat.not_lt_zero _)
  | 0, k + 1, i, h0, hm, hk => by
    obtain ⟨c1, c2, c3, c4⟩ := h
    rw [if_neg (show ¬ 0 ≤ fi WC w 0 i by show ¬ (0 : Int) ≤ -1; decide), A_cite_l120_e, if_neg (by omega), c1]
    by_cases q : nc = 10
    · rw [if_pos q, if_pos q, bnd_e (A_fail_e N 2 _)]
      rfl
    · rw [if_neg q, if_neg q, chk_e (by omega), chk_e (by omega)]
  | m + 1, k + 1, i, h0, hm, hk => by
    have h' := h
    obtain ⟨c1, c2, c3, c4⟩ := h
    have e : fi WC w (m + 1) i = if WC i = w then i else fi WC w m (i + 1) := rfl
    rw [A_cite_l120_e, if_pos (by omega), chk_e (by omega), (c3 i h0 (by omega)).1, e]
    by_cases q : WC i = w
    · rw [if_pos q, if_pos q, if_pos h0]
    · rw [if_neg q, if_neg q, chk_e (by omega)]
      exact p_cit2 h' m k (i + 1) (by omega) (by omega) (by omega)
theorem fi_neg {W : Int → Int} {w : Int} : ∀ (m : Nat) (i : Int), 0 ≤ i → ¬ 0 ≤ fi W w m i → ∀ j : Int, i ≤ j → j < i + m → W j ≠ w
  | 0, i, h0, h, j, j0, j1 => absurd j1 (by omega)
  | m + 1, i, h0, h, j, j0, j1 => by
    have e : fi W w (m + 1) i = if W i = w then i else fi W w m (i + 1) := rfl
    rw [e] at h
    by_cases q : W i = w
    · rw [if_pos q] at h
      exact absurd h0 h
    · rw [if_neg q] at h
      by_cases z : j = i
      · rw [z]
        exact q
      · exact fi_neg m (i + 1) (by omega) h j (by omega) (by omega)
theorem wof_wdk {x : Int} (h : wof x ≠ 0) : wdk (wof x) := by
  have hg := (gdd_iff x).mpr h
  rw [gdd_mw, Bool.and_eq_true, decide_eq_true_iff] at hg
  rw [← mw_yes h]
  refine ⟨wls x 8 0, fun z => hg.1 (by rw [mwof_num, z]; rfl), fun d hd => ⟨wls_ok 8 0 d hd, List.all_eq_true.mp hg.2 d hd⟩, mwof_num x⟩
theorem o_cite {N : Nat} (hN : 100 ≤ N) {S : s_M} {T : Int → List Int} {s : rnT} {ns : Int} {O Q Z : Int → Int} {t : List Int} {nc m : Int} {WC L : Int → Int} (h : cpl S T s ns O Q Z t nc m WC L) {x : Int} : oks (A_cite N x S) (cik WC nc (u64 x)) (civl WC nc (u64 x)) (fun S' T' => cpl S' T' s ns O Q Z t (if cik WC nc (u64 x) = 0 then cin WC nc (u64 x) else nc) m (if cik WC nc (u64 x) = 0 then ciw WC nc (u64 x) else WC) L) := by
  have h' := h
  obtain ⟨a1, a2, a3, a4, a5⟩ := h
  have hm := mwof_rng (u64 x)
  have a40 : ctx (m_s S 0 0 0) nc WC := a4.ex (fun q j z => m_s_n (by omega))
  have e0 : (if mwof (u64 x) = 0 then (0 : Int) else 1) = s_b (decide (mwof (u64 x) ≠ 0)) := by
    by_cases q : mwof (u64 x) = 0
    · rw [if_pos q, decide_eq_false (fun z => z q)]
      rfl
    · rw [if_neg q, decide_eq_true q]
      rfl
  have st : A_cite N x S = A_cite_j98 N (mwof (u64 x)) (s_b (gdd (mwof (u64 x)))) (m_s S 0 0 0) := by
    rw [A_cite_e, chk_e ⟨by omega, by omega⟩, e0]
    exact p_citl hm 8 N 0 _ true (by omega) (by omega) (by omega)
  rw [st, A_cite_j98_e]
  unfold cik
  by_cases c : wof (u64 x) = 0
  · have hg : gdd (mwof (u64 x)) = false := Bool.eq_false_iff.mpr (fun z => (gdd_iff _).mp z c)
    rw [if_pos c, hg, if_pos (show s_b false = 0 from rfl), bnd_e (A_fail_e N 1 _), m_s_two, if_neg (show ¬ (1 : Int) = 0 by decide), if_neg (show ¬ (1 : Int) = 0 by decide)]
    exact oks.same h' rfl (fun y => absurd y (by decide))
  · have hg := (gdd_iff (u64 x)).mpr c
    have he : fi WC (wof (u64 x)) (nc - 0).toNat 0 = fx WC nc (wof (u64 x)) := rfl
    rw [if_neg c, hg, if_neg (by decide), p_cit2 a40 (nc - 0).toNat N 0 (by omega) (by have := a4.2.1; omega) (by have := a4.2.1; omega), mw_yes c, he]
    unfold civl cin ciw
    by_cases c1 : 0 ≤ fx WC nc (wof (u64 x))
    · rw [if_pos c1, if_pos c1, if_pos c1, if_pos c1, if_pos c1, if_pos rfl, if_pos rfl]
      exact oks.same h' rfl (fun _ => rfl)
    · rw [if_neg c1, if_neg c1, if_neg c1, if_neg c1, if_neg c1]
      by_cases c2 : nc = 10
      · rw [if_pos c2, if_pos (show (10 : Int) ≤ nc by omega), if_neg (by decide), if_neg (by decide), m_s_two]
        exact oks.same h' rfl (fun y => absurd y (by decide))
      · have hr := a4.2.1
        rw [if_neg c2, if_neg (show ¬ (10 : Int) ≤ nc by omega), if_pos rfl, if_pos rfl]
        have e : ∀ q j : Int, ¬ (q = 0 ∧ (j = 0 ∨ j = 13)) → q ≠ 10 → m_s (m_s (m_s S 0 0 0) 10 nc (wof (u64 x))) 0 13 (nc + 1) q j = S q j := fun q j z y => by rw [m_s_n (by omega), m_sk y, m_s_n (by omega)]
        have hne := fi_neg (nc - 0).toNat 0 (by omega) c1
        refine ⟨1, _, T, rfl, by rw [m_sj (by decide), m_sk (by decide), m_s_s], fun _ => rfl, ⟨a1.ex (fun q j z => e q j (by omega) (by omega)), a2.keep (K' := S) (fun q j z => e q j (by omega) (by omega)), a3.ex (fun q j z => e q j (by omega) (by omega)), ⟨m_s_s, by omega, fun i i0 i1 => ?_, fun i j i0 i1 j0 j1 hij => ?_⟩, a5.ex (fun q j z => e q j (by omega) (by omega))⟩⟩
        · rw [m_sk (by decide)]
          by_cases q : i = nc
          · rw [q, m_s_s, rset_at]
            exact ⟨rfl, wof_wdk c⟩
          · rw [m_sj q, m_sk (by decide), rset_ne q]
            exact a4.2.2.1 i i0 (by omega)
        · by_cases q1 : i = nc
          · by_cases q2 : j = nc
            · omega
            · rw [q1, rset_at, rset_ne q2] at hij
              exact absurd hij.symm (hne j (by omega) (by omega))
          · by_cases q2 : j = nc
            · rw [q2, rset_at, rset_ne q1] at hij
              exact absurd hij (hne i (by omega) (by omega))
            · rw [rset_ne q1, rset_ne q2] at hij
              exact a4.2.2.2 i j i0 (by omega) j0 (by omega) hij
theorem gst_f {t u : List Int} : ∀ (m : Nat) (i d : Int), it (gst t u) m i (false, d) = (false, d)
  | 0, i, d => rfl
  | m + 1, i, d => gst_f m (i + 1) d
theorem p_befl {N : Nat} {S : s_M} {T : Int → List Int} (h : TX S T) {a b : Int} (ha : 0 ≤ a ∧ a < 85) (hb : 0 ≤ b ∧ b < 85) : ∀ (m k : Nat) (i : Int), 0 ≤ i → i + m = min ((T b).length : Int) ((T a).length : Int) → m < k → A_before_l2 N k a b i S = some (s_b (decide (0 < (it (gst (T b) (T a)) m i (true, ((T b).length : Int) - ((T a).length : Int))).2)), S)
  | m, 0, i, h0, hm, hk => absurd hk (Nat.not_lt_zero _)
  | 0, k + 1, i, h0, hm, hk => by
    have la := h.len ha
    have lb := h.len hb
    have e : A_before_j64 N a b S = some (s_b (decide (0 < ((T b).length : Int) - ((T a).length : Int))), S) := by
      rw [A_before_j64_e, chk_e ha, chk_e hb, la.1, lb.1]
      by_cases q : ((T a).length : Int) < ((T b).length : Int)
      · rw [if_pos q, decide_eq_true (by omega)]
        rfl
      · rw [if_neg q, decide_eq_false (by omega)]
        rfl
    rw [A_before_l2_e, chk_e ha, chk_e hb, e]
    split
    · split
      · omega
      · rfl
    · rfl
  | m + 1, k + 1, i, h0, hm, hk => by
    have la := h.len ha
    have lb := h.len hb
    have g1 := p_att (N := N) h (t := a) (k := i) ha (by omega)
    have g2 := p_att (N := N) h (t := b) (k := i) hb (by omega)
    rw [A_before_l2_e, chk_e ha, chk_e hb, if_pos (by omega), if_pos (by omega), bnd_e g1, bnd_e g2, bnd_e g1, bnd_e g2]
    show _ = some (s_b (decide (0 < (it (gst (T b) (T a)) m (i + 1) (if tg (T b) i = tg (T a) i then (true, ((T b).length : Int) - ((T a).length : Int)) else (false, tg (T b) i - tg (T a) i))).2)), S)
    by_cases q : tg (T a) i = tg (T b) i
    · rw [if_pos q, if_pos q.symm, chk_e (by omega)]
      exact p_befl h ha hb m k (i + 1) (by omega) (by omega) (by omega)
    · rw [if_neg q, if_neg (show ¬ tg (T b) i = tg (T a) i from fun z => q z.symm), gst_f]
      show _ = some (s_b (decide (0 < tg (T b) i - tg (T a) i)), S)
      by_cases z : tg (T a) i < tg (T b) i
      · rw [if_pos z, decide_eq_true (by omega)]
        rfl
      · rw [if_neg z, decide_eq_false (by omega)]
        rfl
theorem p_before {N : Nat} (hN : 100 ≤ N) {S : s_M} {T : Int → List Int} (h : TX S T) {a b : Int} (ha : 0 ≤ a ∧ a < 85) (hb : 0 ≤ b ∧ b < 85) : A_before N a b S = some (s_b (decide (0 < gof (T b) (T a))), S) := by
  have la := h.len ha
  have lb := h.len hb
  rw [A_before_e]
  exact p_befl h ha hb (min ((T b).length : Int) ((T a).length : Int) - 0).toNat N 0 (by omega) (by omega) (by omega)
theorem dst_swap {F G : Int → Int} {m a b : Int} (h : dst_ F m) (ha : 0 ≤ a ∧ a < m) (hb : 0 ≤ b ∧ b < m) (e1 : G a = F b) (e2 : G b = F a) (eo : ∀ j, j ≠ a → j ≠ b → G j = F j) : dst_ G m := by
  have sg : ∀ i : Int, 0 ≤ i → i < m → ∃ k : Int, (0 ≤ k ∧ k < m) ∧ G i = F k ∧ ((i = a ∧ k = b) ∨ (i = b ∧ k = a) ∨ (i ≠ a ∧ i ≠ b ∧ k = i)) := fun i i0 i1 => by
    by_cases q : i = a
    · exact ⟨b, hb, by rw [q]; exact e1, Or.inl ⟨q, rfl⟩⟩
    · by_cases q2 : i = b
      · exact ⟨a, ha, by rw [q2]; exact e2, Or.inr (Or.inl ⟨q2, rfl⟩)⟩
      · exact ⟨i, ⟨i0, i1⟩, eo i q q2, Or.inr (Or.inr ⟨q, q2, rfl⟩)⟩
  intro i j i0 i1 j0 j1 hij
  obtain ⟨k, k1, k2, k3⟩ := sg i i0 i1
  obtain ⟨l, l1, l2, l3⟩ := sg j j0 j1
  have := h k l k1.1 k1.2 l1.1 l1.2 (k2.symm.trans (hij.trans l2))
  omega
/-- the list's entries: in range, their keys as texts, no two the same -/
def lok (T : Int → List Int) (E : Int → sen) (ns m : Int) (L : Int → Int) : Prop := srk T E ns m L ∧ dst_ L m
theorem p_sin {N : Nat} (hN : 100 ≤ N) {k9 : Int → Int → s_M → rO} {T : Int → List Int} {E : Int → sen} {ns m e x2 : Int} (hm : 0 ≤ m ∧ m ≤ 8) (hns : ns ≤ 8) : ∀ (k n : Nat) (S : s_M) (L : Int → Int) (b : Bool), TX S T → (k : Int) < m → (∀ j : Int, 0 ≤ j → j < m → S 11 j = rset L k e j) → lok T E ns m (rset L k e) → k < n → ∃ S', A_sort_l19 N k9 n (s_b b) x2 k S = A_sort_j90 N k9 (s_b (sin E e k L b).2) x2 S' ∧ (∀ j : Int, 0 ≤ j → j < m → S' 11 j = (sin E e k L b).1 j) ∧ lok T E ns m (sin E e k L b).1 ∧ ∀ q j : Int, q ≠ 11 → S' q j = S q j
  | k, 0, S, L, b, ht, hk, hS, hl, hn => absurd hn (Nat.not_lt_zero _)
  | 0, n + 1, S, L, b, ht, hk, hS, hl, hn => ⟨S, by rw [A_sort_l19_e, if_neg (by omega)]; rfl, hS, hl, fun _ _ _ => rfl⟩
  | k + 1, n + 1, S, L, b, ht, hk, hS, hl, hn => by
    have n1 : (k : Int) ≠ ((k + 1 : Nat) : Int) := by omega
    have s1 : S 11 ((k + 1 : Nat) : Int) = e := (hS _ (by omega) hk).trans rset_at
    have s0 : S 11 (k : Int) = L k := (hS _ (by omega) (by omega)).trans (rset_ne n1)
    have k1 := hl.1 ((k + 1 : Nat) : Int) (by omega) hk
    have k0 := hl.1 (k : Int) (by omega) (by omega)
    rw [rset_at] at k1
    rw [rset_ne n1] at k0
    have hb := p_before (N := N) hN ht (a := 62 + e) (b := 62 + L k) (by omega) (by omega)
    rw [k1.2, k0.2] at hb
    have es : sin E e (k + 1) L b = if 0 < gof (E (L k)).2.2.2 (E e).2.2.2 then sin E e k (rset L (k + 1) (L k)) true else (rset L (k + 1) e, b) := rfl
    have st : A_sort_l19 N k9 (n + 1) (s_b b) x2 ((k + 1 : Nat) : Int) S = if 0 < gof (E (L k)).2.2.2 (E e).2.2.2 then A_sort_l19 N k9 n 1 x2 (k : Int) (m_s (m_s S 11 ((k + 1 : Nat) : Int) (L k)) 11 (k : Int) e) else A_sort_j90 N k9 (s_b b) x2 S := by
      rw [A_sort_l19_e, if_pos (by omega), chk_e (by omega), show ((k + 1 : Nat) : Int) - 1 = (k : Int) by omega, s1, s0, chk_e (by omega), chk_e (by omega), chk_e (by omega), chk_e (by omega), bnd_e hb, s1, s0, chk_e (by omega), chk_e (by omega), chk_e (by omega), chk_e (by omega), chk_e (by omega), chk_e (by omega), chk_e (by omega), show ((k + 1 : Nat) : Int) + (-1) = (k : Int) by omega]
      by_cases q : 0 < gof (E (L k)).2.2.2 (E e).2.2.2
      · rw [if_pos q, decide_eq_true q, if_neg (by decide)]
      · rw [if_neg q, decide_eq_false q, if_pos (by decide)]
    rw [st, es]
    by_cases q : 0 < gof (E (L k)).2.2.2 (E e).2.2.2
    · rw [if_pos q, if_pos q]
      have hL : ∀ j : Int, rset (rset L (k + 1) (L k)) k e j = if j = (k : Int) then e else if j = ((k + 1 : Nat) : Int) then L k else rset L ((k + 1 : Nat) : Int) e j := fun j => by
        by_cases z : j = (k : Int)
        · rw [if_pos z, z, rset_at]
        · rw [if_neg z, rset_ne z]
          by_cases y : j = ((k + 1 : Nat) : Int)
          · rw [if_pos y, y]
            exact rset_at
          · rw [if_neg y, rset_ne y]
            exact rset_ne y
      have hS' : ∀ j : Int, 0 ≤ j → j < m → m_s (m_s S 11 ((k + 1 : Nat) : Int) (L k)) 11 (k : Int) e 11 j = rset (rset L (k + 1) (L k)) k e j := fun j j0 j1 => by
        rw [hL]
        by_cases z : j = (k : Int)
        · rw [if_pos z, z, m_s_s]
        · rw [if_neg z, m_sj z]
          by_cases y : j = ((k + 1 : Nat) : Int)
          · rw [if_pos y, y, m_s_s]
          · rw [if_neg y, m_sj y]
            exact hS j j0 j1
      have hl' : lok T E ns m (rset (rset L (k + 1) (L k)) k e) := by
        refine ⟨fun j j0 j1 => ?_, dst_swap (a := (k : Int)) (b := ((k + 1 : Nat) : Int)) hl.2 (by omega) (by omega) ?_ ?_ (fun j z y => ?_)⟩
        · rw [hL]
          by_cases z : j = (k : Int)
          · rw [if_pos z]
            exact k1
          · rw [if_neg z]
            by_cases y : j = ((k + 1 : Nat) : Int)
            · rw [if_pos y]
              exact k0
            · rw [if_neg y]
              exact hl.1 j j0 j1
        · rw [hL, if_pos rfl, rset_at]
        · rw [hL, if_neg (fun z => n1 z.symm), if_pos rfl, rset_ne n1]
        · rw [hL, if_neg z, if_neg y]
      obtain ⟨S2, b1, b2, b3, b4⟩ := p_sin hN hm hns k n _ (rset L (k + 1) (L k)) true (ht.ex (fun q j z => by rw [m_sk (by omega), m_sk (by omega)])) (by omega) hS' hl' (by omega)
      exact ⟨S2, b1, b2, b3, fun q j z => (b4 q j z).trans ((m_sk z).trans (m_sk z))⟩
    · rw [if_neg q, if_neg q]
      exact ⟨S, rfl, hS, hl, fun _ _ _ => rfl⟩
theorem p_srl {N : Nat} (hN : 100 ≤ N) {T : Int → List Int} {E : Int → sen} {ns m : Int} (hm : 0 ≤ m ∧ m ≤ 8) (hns : ns ≤ 8) : ∀ (mm n : Nat) (i : Int) (S : s_M) (L : Int → Int) (b : Bool), TX S T → S 0 15 = m → 1 ≤ i → (i + mm = m ∨ (mm = 0 ∧ m ≤ i)) → (∀ j : Int, 0 ≤ j → j < m → S 11 j = L j) → lok T E ns m L → mm < n → i ≤ 100 → ∃ S', A_sort_l9 N n (s_b b) i S = some (s_b (it (sst E) mm i (L, b)).2, S') ∧ (∀ j : Int, 0 ≤ j → j < m → S' 11 j = (it (sst E) mm i (L, b)).1 j) ∧ lok T E ns m (it (sst E) mm i (L, b)).1 ∧ ∀ q j : Int, q ≠ 11 → S' q j = S q j
  | mm, 0, i, S, L, b, ht, h15, hi, him, hS, hl, hn, h100 => absurd hn (Nat.not_lt_zero _)
  | 0, n + 1, i, S, L, b, ht, h15, hi, him, hS, hl, hn, h100 => by
    refine ⟨S, ?_, hS, hl, fun _ _ _ => rfl⟩
    rw [A_sort_l9_e, if_neg (by omega), chk_e (by cases b <;> decide)]
    rfl
  | mm + 1, n + 1, i, S, L, b, ht, h15, hi, him, hS, hl, hn, h100 => by
    have hself : ∀ j, rset L ((i.toNat : Nat) : Int) (L i) j = L j := fun j => by
      by_cases z : j = ((i.toNat : Nat) : Int)
      · rw [z, rset_at, show ((i.toNat : Nat) : Int) = i by omega]
      · rw [rset_ne z]
    have hselff : rset L ((i.toNat : Nat) : Int) (L i) = L := funext hself
    obtain ⟨S1, a1, a2, a3, a4⟩ := p_sin (N := N) hN (k9 := A_sort_l9 N n) (x2 := i) (e := L i) hm hns i.toNat N S L b ht (by omega) (fun j j0 j1 => (hS j j0 j1).trans (hself j).symm) (by rw [hselff]; exact hl) (by omega)
    rw [show ((i.toNat : Nat) : Int) = i by omega] at a1
    obtain ⟨S2, b1, b2, b3, b4⟩ := p_srl hN hm hns mm n (i + 1) S1 (sin E (L i) i.toNat L b).1 (sin E (L i) i.toNat L b).2 (ht.ex (fun q j z => a4 q j (by omega))) ((a4 0 15 (by decide)).trans h15) (by omega) (by omega) a2 a3 (by omega) (by omega)
    refine ⟨S2, ?_, b2, b3, fun q j z => (b4 q j z).trans (a4 q j z)⟩
    rw [A_sort_l9_e, if_pos (by omega), a1, A_sort_j90_e, chk_e (by omega)]
    exact b1
theorem o_sort {N : Nat} (hN : 100 ≤ N) {S : s_M} {T : Int → List Int} {s : rnT} {ns : Int} {O Q Z : Int → Int} {t : List Int} {nc m : Int} {WC L : Int → Int} (h : cpl S T s ns O Q Z t nc m WC L) : oks (A_sort N S) 0 (s_b (srl s.2.1.2 m L).2) (fun S' T' => cpl S' T' s ns O Q Z t nc m WC (srl s.2.1.2 m L).1) := by
  have h0 := h.th 0
  obtain ⟨a1, a2, a3, a4, a5⟩ := h0
  obtain ⟨c1, c2, c3, c4, c5⟩ := a1
  obtain ⟨S1, b1, b2, b3, b4⟩ := p_srl (N := N) hN (T := T) (E := s.2.1.2) (ns := ns) a5.2.1 c2.len.2 (m - 1).toNat N 1 (m_s S 0 0 0) L false c1.1 a5.1 (by omega) (by have := a5.2.1; omega) a5.2.2.1 ⟨c5, a5.2.2.2⟩ (by have := a5.2.1; omega) (by omega)
  refine ⟨_, S1, T, (A_sort_e N S).trans b1, (b4 0 0 (by decide)).trans m_s_s, fun _ => rfl, ?_⟩
  have hC : CX S1 T ns m L s := CX.ex ⟨c1, c2, c3, c4, c5⟩ (fun q j z => b4 q j (by omega))
  exact ⟨⟨hC.1, hC.2.1, hC.2.2.1, hC.2.2.2.1, b3.1⟩, a2.keep (K' := S) (fun q j z => b4 q j (by omega)), a3.ex (fun q j z => b4 q j (by omega)), a4.ex (fun q j z => b4 q j (by omega)), ⟨(b4 0 15 (by decide)).trans a5.1, a5.2.1, b2, b3.2⟩⟩
