theorem o_empty {N : Nat} {S : s_M} {T : Int → List Int} {s : rnT} {ns : Int} {O Q Z : Int → Int} {t : List Int} {nc m : Int} {WC L : Int → Int} (h : cpl S T s ns O Q Z t nc m WC L) : oks (A_empty N S) 0 s.1.2.1 (fun S' T' => cpl S' T' ((s.1.1, 0, s.1.2.2), s.2) ns O Q Z t nc m WC L) := by
  obtain ⟨a1, a2, a3, a4, a5⟩ := h
  obtain ⟨⟨q1, q2, q3, q4, q5⟩, e1, e2, e3, e4⟩ := a1
  refine ⟨S 0 26, _, T, A_empty_e N S, by rw [m_sj (by decide), m_s_s], fun _ => q3, ?_⟩
  have e : ∀ q j : Int, ¬ (q = 0 ∧ (j = 0 ∨ j = 26)) → m_s (m_s S 0 0 0) 0 26 0 q j = S q j := fun q j z => by rw [m_s_n (by omega), m_s_n (by omega)]
  refine ⟨⟨⟨q1.ex (fun q j z => e q j (by omega)), q2.ex (fun j => e 1 j (by omega)), m_s_s, by show (0 : Int) ≤ 0 ∧ (0 : Int) ≤ 12; decide, fun i i0 i1 => absurd i1 (by show ¬ i < 0; omega)⟩, e1.exg (fun q j z => e q j (by omega)) (fun q _ => rfl), fun g g0 g1 => ?_, e3.ex (fun q j z => e q j (by omega)), e4⟩, ⟨fun _ _ _ => rfl, fun f f0 f1 => ?_⟩, a3.ex (fun q j z => e q j (by omega)), a4.ex (fun q j z => e q j (by omega)), a5.ex (fun q j z => e q j (by omega))⟩
  · rw [e 15 g (by omega)]
    exact e2 g g0 g1
  · obtain ⟨b1, b2, b3⟩ := a2.2 f f0 f1
    refine ⟨(e 12 f (by omega)).trans b1, b2, fun p p0 p1 => ?_⟩
    rw [e 13 _ (by omega), e 14 _ (by omega)]
    exact b3 p p0 p1
/-- rows 12 to 14 as they were -/
theorem fnk.keep {S S' K K' : s_M} {O Q Z : Int → Int} (h : fnk S K O Q Z) (e : ∀ q j : Int, 12 ≤ q ∧ q ≤ 14 → S' q j = S q j) : fnk S' S' O Q Z := ⟨fun _ _ _ => rfl, fun f f0 f1 => by
  obtain ⟨b1, b2, b3⟩ := h.2 f f0 f1
  refine ⟨(e 12 f (by omega)).trans b1, b2, fun p p0 p1 => ?_⟩
  rw [e 13 _ (by omega), e 14 _ (by omega)]
  exact b3 p p0 p1⟩
theorem o_forget {N : Nat} {S : s_M} {T : Int → List Int} {s : rnT} {ns : Int} {O Q Z : Int → Int} {t : List Int} {nc m : Int} {WC L : Int → Int} (h : cpl S T s ns O Q Z t nc m WC L) : oks (A_forget N S) 0 nc (fun S' T' => cpl S' T' s ns O Q Z t 0 m WC L) := by
  obtain ⟨a1, a2, a3, a4, a5⟩ := h
  refine ⟨S 0 13, _, T, A_forget_e N S, by rw [m_sj (by decide), m_s_s], fun _ => a4.1, ?_⟩
  have e : ∀ q j : Int, ¬ (q = 0 ∧ (j = 0 ∨ j = 13)) → m_s (m_s S 0 0 0) 0 13 0 q j = S q j := fun q j z => by rw [m_s_n (by omega), m_s_n (by omega)]
  exact ⟨a1.ex (fun q j z => e q j (by omega)), a2.keep (K' := S) (fun q j z => e q j (by omega)), a3.ex (fun q j z => e q j (by omega)), ⟨m_s_s, by decide, fun i i0 i1 => absurd i1 (by omega), fun i j i0 i1 => absurd i1 (by omega)⟩, a5.ex (fun q j z => e q j (by omega))⟩
theorem o_erase {N : Nat} {S : s_M} {T : Int → List Int} {s : rnT} {ns : Int} {O Q Z : Int → Int} {t : List Int} {nc m : Int} {WC L : Int → Int} (h : cpl S T s ns O Q Z t nc m WC L) : oks (A_erase N S) 0 (t.length : Int) (fun S' T' => cpl S' T' s ns O Q Z [] nc m WC L) := by
  obtain ⟨a1, a2, a3, a4, a5⟩ := h
  refine ⟨S 0 2, _, T, A_erase_e N S, by rw [m_sj (by decide), m_s_s], fun _ => a3.1, ?_⟩
  have e : ∀ q j : Int, ¬ (q = 0 ∧ (j = 0 ∨ j = 2)) → m_s (m_s S 0 0 0) 0 2 0 q j = S q j := fun q j z => by rw [m_s_n (by omega), m_s_n (by omega)]
  exact ⟨a1.ex (fun q j z => e q j (by omega)), a2.keep (K' := S) (fun q j z => e q j (by omega)), ⟨m_s_s, by decide, fun i i0 i1 => absurd i1 (by show ¬ i < ((0 : Nat) : Int); omega)⟩, a4.ex (fun q j z => e q j (by omega)), a5.ex (fun q j z => e q j (by omega))⟩
theorem o_clear {N : Nat} {S : s_M} {T : Int → List Int} {s : rnT} {ns : Int} {O Q Z : Int → Int} {t : List Int} {nc m : Int} {WC L : Int → Int} (h : cpl S T s ns O Q Z t nc m WC L) {f : Int} : oks (A_clear N f S) (clk f) (Z f) (fun S' T' => cpl S' T' s ns O Q (if clk f = 0 then rset Z f 0 else Z) t nc m WC L) := by
  have h' := h
  obtain ⟨a1, a2, a3, a4, a5⟩ := h
  unfold clk
  by_cases c : 0 ≤ f ∧ f < 6
  · rw [if_pos c, if_pos rfl]
    obtain ⟨z1, z2, z3⟩ := a2.2 f c.1 c.2
    refine ⟨S 12 f, m_s (m_s S 0 0 0) 12 f 0, T, ?_, by rw [m_sk (by decide), m_s_s], fun _ => z1, ?_⟩
    · rw [A_clear_e, if_pos (decide_eq_true (by omega)), chk_e (by omega), chk_e (by omega)]
    · have e : ∀ q j : Int, ¬ (q = 0 ∧ j = 0) → q ≠ 12 → m_s (m_s S 0 0 0) 12 f 0 q j = S q j := fun q j z y => by rw [m_sk y, m_s_n z]
      refine ⟨a1.ex (fun q j z => e q j (by omega) (by omega)), ⟨fun _ _ _ => rfl, fun g g0 g1 => ?_⟩, a3.ex (fun q j z => e q j (by omega) (by omega)), a4.ex (fun q j z => e q j (by omega) (by omega)), a5.ex (fun q j z => e q j (by omega) (by omega))⟩
      by_cases q : g = f
      · rw [q, m_s_s, rset_at]
        exact ⟨rfl, by decide, fun p p0 p1 => absurd p1 (by omega)⟩
      · obtain ⟨b1, b2, b3⟩ := a2.2 g g0 g1
        rw [m_sj q, m_sk (by decide), rset_ne q]
        refine ⟨b1, b2, fun p p0 p1 => ?_⟩
        rw [e 13 _ (by omega) (by decide), e 14 _ (by omega) (by decide)]
        exact b3 p p0 p1
  · rw [if_neg c, if_neg (by decide)]
    refine oks.same h' (v := 0) ?_ (fun y => absurd y (by decide))
    rw [A_clear_e, if_neg (fun y => c (by have := of_decide_eq_true y; omega)), bnd_e (A_fail_e N 1 _), m_s_two]
theorem o_define {N : Nat} {S : s_M} {T : Int → List Int} {s : rnT} {ns : Int} {O Q Z : Int → Int} {t : List Int} {nc m : Int} {WC L : Int → Int} (h : cpl S T s ns O Q Z t nc m WC L) {f q v : Int} (hv : rL v) : oks (A_define N f q v S) (dek Z f q) (Z f + 1) (fun S' T' => cpl S' T' s ns (if dek Z f q = 0 then rset O (f * 24 + Z f) q else O) (if dek Z f q = 0 then rset Q (f * 24 + Z f) (if 13 ≤ q then max v 0 else v) else Q) (if dek Z f q = 0 then inc Z f else Z) t nc m WC L) := by
  have h' := h
  obtain ⟨a1, a2, a3, a4, a5⟩ := h
  have no : ∀ x : Int, x ≠ 0 → A_define N f q v S = some (0, m_s S 0 0 x) → oks (A_define N f q v S) x (Z f + 1) (fun S' T' => cpl S' T' s ns (if x = 0 then rset O (f * 24 + Z f) q else O) (if x = 0 then rset Q (f * 24 + Z f) (if 13 ≤ q then max v 0 else v) else Q) (if x = 0 then inc Z f else Z) t nc m WC L) := fun x hx e => by
    rw [if_neg hx, if_neg hx, if_neg hx]
    exact oks.same h' e (fun y => absurd y hx)
  have nj : A_define_j24 N (m_s S 0 0 0) = some (0, m_s S 0 0 1) := by
    rw [A_define_j24_e, bnd_e (A_fail_e N 1 _), m_s_two]
  unfold dek
  by_cases c : (0 ≤ f ∧ f < 6) ∧ 0 ≤ q ∧ q < 30
  · rw [if_pos c]
    obtain ⟨z1, z2, z3⟩ := a2.2 f c.1.1 c.1.2
    by_cases c2 : 24 ≤ Z f
    · rw [if_pos c2]
      refine no 2 (by decide) ?_
      rw [A_define_e, if_pos (decide_eq_true (by omega)), if_pos (decide_eq_true (by omega)), chk_e (by omega), if_pos (by omega), bnd_e (A_fail_e N 2 _), m_s_two]
    · rw [if_neg c2, if_pos rfl, if_pos rfl, if_pos rfl]
      refine ⟨Z f + 1, m_s (m_s (m_s (m_s S 0 0 0) 13 (24 * f + Z f) q) 14 (24 * f + Z f) v) 12 f (Z f + 1), T, ?_, ?_, fun _ => rfl, ?_⟩
      · rw [A_define_e, if_pos (decide_eq_true (by omega)), if_pos (decide_eq_true (by omega)), chk_e (by omega), z1, if_neg (by omega), chk_e (by omega), chk_e (by omega), chk_e (by omega), chk_e (by omega), chk_e (by omega), chk_e (by omega), chk_e (by omega), chk_e (by omega), chk_e (by omega), chk_e (by omega), chk_e (by omega), chk_e (by omega)]
      · rw [m_sk (by decide), m_sk (by decide), m_sk (by decide), m_s_s]
      · have e : ∀ a b : Int, ¬ (a = 0 ∧ b = 0) → (a < 12 ∨ 14 < a) → m_s (m_s (m_s (m_s S 0 0 0) 13 (24 * f + Z f) q) 14 (24 * f + Z f) v) 12 f (Z f + 1) a b = S a b := fun a b z y => by rw [m_sk (by omega), m_sk (by omega), m_sk (by omega), m_s_n z]
        refine ⟨a1.ex (fun a b z => e a b (by omega) (by omega)), ⟨fun _ _ _ => rfl, fun g g0 g1 => ?_⟩, a3.ex (fun a b z => e a b (by omega) (by omega)), a4.ex (fun a b z => e a b (by omega) (by omega)), a5.ex (fun a b z => e a b (by omega) (by omega))⟩
        obtain ⟨b1, b2, b3⟩ := a2.2 g g0 g1
        have iz : inc Z f g = if g = f then Z g + 1 else Z g := rfl
        refine ⟨?_, ?_, fun p p0 p1 => ?_⟩
        · rw [iz]
          by_cases w : g = f
          · rw [if_pos w, w, m_s_s]
          · rw [if_neg w, m_sj w, m_sk (by decide), m_sk (by decide), m_sk (by decide)]
            exact b1
        · rw [iz]
          by_cases w : g = f
          · rw [if_pos w, w]
            omega
          · rw [if_neg w]
            exact b2
        · rw [iz] at p1
          have e13 : ∀ b, m_s (m_s (m_s (m_s S 0 0 0) 13 (24 * f + Z f) q) 14 (24 * f + Z f) v) 12 f (Z f + 1) 13 b = if b = 24 * f + Z f then q else S 13 b := fun b => by
            rw [m_sk (by decide), m_sk (by decide)]
            by_cases w : b = 24 * f + Z f
            · rw [if_pos w, w, m_s_s]
            · rw [if_neg w, m_sj w, m_sk (by decide)]
          have e14 : ∀ b, m_s (m_s (m_s (m_s S 0 0 0) 13 (24 * f + Z f) q) 14 (24 * f + Z f) v) 12 f (Z f + 1) 14 b = if b = 24 * f + Z f then v else S 14 b := fun b => by
            rw [m_sk (by decide)]
            by_cases w : b = 24 * f + Z f
            · rw [if_pos w, w, m_s_s]
            · rw [if_neg w, m_sj w, m_sk (by decide), m_sk (by decide)]
          rw [e13, e14]
          by_cases w : g = f ∧ p = Z f
          · rw [w.1, w.2, if_pos rfl, if_pos rfl, rset_at, rset_at]
            exact ⟨rfl, by omega, hv, rfl⟩
          · have hp : p < Z g := by
              by_cases w2 : g = f
              · rw [if_pos w2] at p1
                rw [w2] at p1 ⊢
                omega
              · rw [if_neg w2] at p1
                exact p1
            have hne : g * 24 + p ≠ f * 24 + Z f := by omega
            have hne2 : 24 * g + p ≠ 24 * f + Z f := by omega
            rw [if_neg hne2, if_neg hne2, rset_ne hne, rset_ne hne]
            exact b3 p p0 hp
  · rw [if_neg c]
    refine no 1 (by decide) ?_
    rw [A_define_e]
    by_cases c1 : 0 ≤ f ∧ f ≤ 5
    · rw [if_pos (decide_eq_true c1), if_neg (fun y => c (by have := of_decide_eq_true y; omega)), nj]
    · rw [if_neg (fun y => c1 (of_decide_eq_true y)), nj]
theorem o_run {N : Nat} (hN : 100000 ≤ N) {S : s_M} {T : Int → List Int} {s : rnT} {ns : Int} {O Q Z : Int → Int} {t : List Int} {nc m : Int} {WC L : Int → Int} (h : cpl S T s ns O Q Z t nc m WC L) (hr : rok (zdn s)) {f y : Int} : oks (A_run N f y S) (ruk ns O Q Z L m f y s) (srn ns O Q Z L m f y s).2.2.2.2.1 (fun S' T' => cpl S' T' (if ruk ns O Q Z L m f y s = 1 then s else (srn ns O Q Z L m f y s).2) ns O Q Z t nc m WC L) := by
  have h' := h
  obtain ⟨a1, a2, a3, a4, a5⟩ := h
  unfold ruk
  by_cases c : (0 ≤ f ∧ f < 6) ∧ 0 ≤ y ∧ y ≤ 2
  · rw [if_pos c]
    obtain ⟨S1, T1, b1, ⟨hd, b2⟩, b3, b4, b5⟩ := p_run (N := N) hN a1 a2 hr c.1 c.2 a5.2.1 a5.1 a5.2.2.1
    have k : ∀ q j : Int, (q = 2 ∨ (9 ≤ q ∧ q ≤ 11) ∨ (q = 0 ∧ (j = 2 ∨ j = 11 ∨ j = 13 ∨ j = 15))) → S1 q j = S q j := fun q j z => (b5.1 q j (by omega)).trans (m_s_n (by omega))
    have k0 : S1 0 0 = 0 := (b5.1 0 0 (by omega)).trans m_s_s
    have hc : cpl S1 T1 (srn ns O Q Z L m f y s).2 ns O Q Z t nc m WC L := ⟨b2.cx, b5.self, a3.ex (fun q j z => k q j (by omega)), a4.ex (fun q j z => k q j (by omega)), a5.ex (fun q j z => k q j (by omega))⟩
    by_cases q : (srn ns O Q Z L m f y s).1 = true
    · rw [if_pos q, if_neg (by decide)]
      rw [if_pos q, if_pos q] at b1
      exact ⟨_, S1, T1, b1, k0, fun _ => rfl, hc⟩
    · rw [if_neg q, if_neg (by decide)]
      rw [if_neg q, if_neg q] at b1
      exact ⟨_, _, T1, b1, m_s_s, fun z => absurd z (by decide), hc.th 2⟩
  · rw [if_neg c, if_pos rfl]
    have nj : A_run_j23 N (m_s S 0 0 0) = some (0, m_s S 0 0 1) := by
      rw [A_run_j23_e, bnd_e (A_fail_e N 1 _), m_s_two]
    refine oks.same h' (v := 0) ?_ (fun y => absurd y (by decide))
    rw [A_run_e]
    by_cases c1 : 0 ≤ f ∧ f ≤ 5
    · rw [if_pos (decide_eq_true c1), if_neg (fun z => c (by have := of_decide_eq_true z; omega)), nj]
    · rw [if_neg (fun z => c1 (of_decide_eq_true z)), nj]
theorem ta_lt {t : List Int} {c : Int} (h : t.length < 320) : ta 320 t c = t ++ [c] := if_pos h
theorem p_wrl {N : Nat} {x n : Int} (hn : 1 ≤ n ∧ n ≤ 8) : ∀ (m k : Nat) (i b : Int) (S : s_M) (t : List Int), srx (m_s S 0 2 (b + i)) t → S 0 2 = b → (t.length : Int) = b + i → b + n ≤ 320 → 0 ≤ i → 0 ≤ b → i + m = n → (∀ j : Int, i ≤ j → j < n → okc (by_ (u64 x) j) = true) → m < k → ∃ S', A_write_l116 N k x n i S = some (b + n, S') ∧ srx S' (it (adst (u64 x)) m i t) ∧ ∀ q j : Int, q ≠ 2 → ¬ (q = 0 ∧ j = 2) → S' q j = S q j
  | m, 0, i, b, S, t, hs, h2, hl, hb, h0, hb0, hm, hok, hk => absurd hk (Nat.not_lt_zero _)
  | 0, k + 1, i, b, S, t, hs, h2, hl, hb, h0, hb0, hm, hok, hk => by
    refine ⟨m_s S 0 2 (b + n), ?_, ?_, fun q j z y => m_s_n y⟩
    · rw [A_write_l116_e, if_neg (by omega), h2, chk_e (by omega)]
    · rw [show b + n = b + i by omega]
      exact hs
  | m + 1, k + 1, i, b, S, t, hs, h2, hl, hb, h0, hb0, hm, hok, hk => by
    have hc := hok i (by omega) (by omega)
    have hta : adst (u64 x) i t = t ++ [by_ (u64 x) i] := ta_lt (by omega)
    have hlen : (adst (u64 x) i t).length = t.length + 1 := by
      rw [hta, List.length_append]
      rfl
    have hs' : srx (m_s (m_s S 2 (b + i) (by_ (u64 x) i)) 0 2 (b + (i + 1))) (adst (u64 x) i t) := by
      obtain ⟨s1, s2, s3⟩ := hs
      refine ⟨by rw [m_s_s, hlen]; omega, by omega, fun j j0 j1 => ?_⟩
      rw [m_sk (by decide), hta, tg_app]
      rw [hlen] at j1
      by_cases e : j = (t.length : Int)
      · rw [if_pos e, e, hl, m_s_s]
        refine ⟨rfl, ?_⟩
        unfold okc p_prn at hc
        rw [Bool.or_eq_true, decide_eq_true_iff, decide_eq_true_iff] at hc
        omega
      · rw [if_neg e, m_sj (by omega)]
        have := s3 j j0 (by omega)
        rw [m_sk (by decide)] at this
        exact this
    obtain ⟨S2, b1, b2, b3⟩ := p_wrl (N := N) (x := x) hn m k (i + 1) b (m_s S 2 (b + i) (by_ (u64 x) i)) (adst (u64 x) i t) hs' (by rw [m_sk (by decide)]; exact h2) (by omega) hb (by omega) hb0 (by omega) (fun j j0 j1 => hok j (by omega) j1) (by omega)
    refine ⟨S2, ?_, b2, fun q j z y => (b3 q j z y).trans (m_sk z)⟩
    rw [A_write_l116_e, if_pos (by omega), h2, chk_e (by omega), chk_e (by omega), chk_e (by omega), chk_e (by omega), bt_eq (by omega)]
    exact b1
theorem p_wrc {N : Nat} {x n : Int} (hn : 1 ≤ n ∧ n ≤ 8) {S : s_M} : ∀ (m k : Nat) (i : Int) (b : Bool), 0 ≤ i → i + m = n → m < k → A_write_l27 N k x n (s_b b) i S = if (b && alc (u64 x) m i) = true then (chk (rI ((S 0 2) + n)) <| if 320 < ((S 0 2) + n) then (bnd (A_fail N 2 S) fun v27 S28 => some (v27, S28)) else (A_write_l116 N N x n 0 S)) else (bnd (A_fail N 1 S) fun v35 S36 => some (v35, S36))
  | m, 0, i, b, h0, hm, hk => absurd hk (Nat.not_lt_zero _)
  | 0, k + 1, i, b, h0, hm, hk => by
    rw [A_write_l27_e, if_neg (by omega)]
    cases b <;> rfl
  | m + 1, k + 1, i, b, h0, hm, hk => by
    have e : (if s_b b = 0 then (0 : Int) else (if by_ (u64 x) i = 10 then (1 : Int) else (if (decide (32 ≤ by_ (u64 x) i ∧ by_ (u64 x) i ≤ 126)) = true then (1 : Int) else 0))) = s_b (b && okc (by_ (u64 x) i)) := by
      unfold okc p_prn
      cases b with
      | false => rfl
      | true =>
        rw [if_neg (by decide), Bool.true_and]
        by_cases q : by_ (u64 x) i = 10
        · rw [if_pos q, decide_eq_true q, Bool.or_true]
          rfl
        · rw [if_neg q, decide_eq_false q, Bool.or_false]
          cases decide (32 ≤ by_ (u64 x) i ∧ by_ (u64 x) i ≤ 126) <;> rfl
    rw [A_write_l27_e, if_pos (by omega), chk_e (by omega), chk_e (by omega), bt_eq (by omega), e, p_wrc hn m k (i + 1) _ (by omega) (by omega) (by omega), Bool.and_assoc]
    rfl
theorem alc_all {x : Int} : ∀ (m : Nat) (i : Int), alc x m i = true → ∀ j : Int, i ≤ j → j < i + m → okc (by_ x j) = true
  | 0, i, h, j, j0, j1 => absurd j1 (by omega)
  | m + 1, i, h, j, j0, j1 => by
    have h2 : (okc (by_ x i) && alc x m (i + 1)) = true := h
    rw [Bool.and_eq_true] at h2
    by_cases e : j = i
    · rw [e]
      exact h2.1
    · exact alc_all m (i + 1) h2.2 j (by omega) (by omega)
theorem o_write {N : Nat} (hN : 100 ≤ N) {S : s_M} {T : Int → List Int} {s : rnT} {ns : Int} {O Q Z : Int → Int} {t : List Int} {nc m : Int} {WC L : Int → Int} (h : cpl S T s ns O Q Z t nc m WC L) {x n : Int} : oks (A_write N x n S) (wrk t (u64 x) n) ((t.length : Int) + n) (fun S' T' => cpl S' T' s ns O Q Z (if wrk t (u64 x) n = 0 then ads (u64 x) n t else t) nc m WC L) := by
  have h' := h
  obtain ⟨a1, a2, a3, a4, a5⟩ := h
  have no : ∀ y : Int, y ≠ 0 → A_write N x n S = some (0, m_s S 0 0 y) → oks (A_write N x n S) y ((t.length : Int) + n) (fun S' T' => cpl S' T' s ns O Q Z (if y = 0 then ads (u64 x) n t else t) nc m WC L) := fun y hy e => by
    rw [if_neg hy]
    exact oks.same h' e (fun z => absurd z hy)
  have h2 : (m_s S 0 0 0) 0 2 = (t.length : Int) := (m_sj (by decide)).trans a3.1
  have h320 := a3.2.1
  unfold wrk
  by_cases c : 1 ≤ n ∧ n ≤ 8
  · have e := p_wrc (N := N) (x := x) c (S := m_s S 0 0 0) (n - 0).toNat N 0 true (by omega) (by omega) (by omega)
    rw [Bool.true_and, h2, show alc (u64 x) (n - 0).toNat 0 = ala (u64 x) n from rfl] at e
    have st : A_write N x n S = A_write_l27 N N x n 1 0 (m_s S 0 0 0) := by rw [A_write_e, if_pos (decide_eq_true c)]
    by_cases c2 : ala (u64 x) n = true
    · rw [if_pos ⟨c.1, c.2, c2⟩]
      rw [if_pos c2, chk_e (by omega)] at e
      by_cases c3 : (t.length : Int) + n ≤ 320
      · rw [if_pos c3, if_pos rfl]
        rw [if_neg (by omega)] at e
        obtain ⟨S1, b1, b2, b3⟩ := p_wrl (N := N) (x := x) c (n - 0).toNat N 0 (t.length : Int) (m_s S 0 0 0) t (a3.ex (fun q j z => by
          by_cases w : q = 0 ∧ j = 2
          · rw [w.1, w.2, m_s_s, Int.add_zero]
            exact a3.1.symm
          · rw [m_s_n w, m_s_n (by omega)])) h2 (by omega) c3 (by omega) (by omega) (by omega) (fun j j0 j1 => alc_all (n - 0).toNat 0 c2 j j0 (by omega)) (by omega)
        refine ⟨_, S1, T, (st.trans e).trans b1, (b3 0 0 (by decide) (by decide)).trans m_s_s, fun _ => rfl, ?_⟩
        have g : ∀ q j : Int, ¬ (q = 0 ∧ (j = 0 ∨ j = 2)) → q ≠ 2 → S1 q j = S q j := fun q j z y => (b3 q j y (by omega)).trans (m_s_n (by omega))
        exact ⟨a1.ex (fun q j z => g q j (by omega) (by omega)), a2.keep (K' := S) (fun q j z => g q j (by omega) (by omega)), b2, a4.ex (fun q j z => g q j (by omega) (by omega)), a5.ex (fun q j z => g q j (by omega) (by omega))⟩
      · rw [if_neg c3]
        rw [if_pos (by omega)] at e
        refine no 2 (by decide) ((st.trans e).trans ?_)
        rw [bnd_e (A_fail_e N 2 _), m_s_two]
    · rw [if_neg (fun z => c2 z.2.2)]
      rw [if_neg c2] at e
      refine no 1 (by decide) ((st.trans e).trans ?_)
      rw [bnd_e (A_fail_e N 1 _), m_s_two]
  · rw [if_neg (fun z => c ⟨z.1, z.2.1⟩)]
    refine no 1 (by decide) ?_
    rw [A_write_e, if_neg (fun z => c (of_decide_eq_true z)), bnd_e (A_fail_e N 1 _), m_s_two]
