theorem it_P {σ : Type} (f : Int → σ → σ) (P : σ → Prop) (lo hi : Int) (hs : ∀ j s, lo ≤ j → j < hi → P s → P (f j s)) : ∀ (n : Nat) (i : Int) (s : σ), lo ≤ i → i + n ≤ hi → P s → P (it f n i s)
  | 0, i, s, h0, h1, h => h
  | n + 1, i, s, h0, h1, h => it_P f P lo hi hs n (i + 1) (f i s) (by omega) (by omega) (hs i s h0 (by omega) h)
theorem p_low_p {c : Int} (h : 32 ≤ c ∧ c ≤ 126) : 32 ≤ p_low c ∧ p_low c ≤ 126 := by
  unfold p_low
  split
  · rename_i q
    have := of_decide_eq_true q
    omega
  · exact h
theorem p_upp_p {c : Int} (h : 32 ≤ c ∧ c ≤ 126) : 32 ≤ p_upp c ∧ p_upp c ≤ 126 := by
  unfold p_upp
  split
  · rename_i q
    have := of_decide_eq_true q
    omega
  · exact h
theorem prt_pof {t : List Int} (h : prt t) : prt (pof t) := by
  unfold pof
  refine it_P (pst t) prt 0 (t.length : Int) (fun j u j0 j1 hu => ?_) _ 0 [] (by omega) (by omega) prt_nil
  unfold pst
  split
  · exact prt_ta hu (by decide)
  · split
    · exact prt_ta hu (h j j0 j1)
    · exact hu
theorem prt_kof {t : List Int} {how : Int} (h : prt t) : prt (kof t how) := by
  unfold kof
  refine it_P (kst t how) (fun s => prt s.2.2) 0 (t.length : Int) (fun j s j0 j1 hu => ?_) _ 0 (0, true, []) (by omega) (by omega) prt_nil
  refine prt_ta hu ?_
  split
  · exact h j j0 j1
  · split
    · exact p_upp_p (h j j0 j1)
    · exact p_low_p (h j j0 j1)
theorem prt_cb {u : List Int} (n : Nat) (i : Int) (h : prt u) : prt (it cbst n i u) := it_P cbst prt i (i + n) (fun j u j0 j1 hu => prt_ta hu (by decide)) n i u (by omega) (by omega) h
theorem prt_cof {t : List Int} {b : Int} (h : prt t) : prt (cof t b) := by
  unfold cof
  refine prt_cb _ _ ?_
  refine it_P (cst t b) (fun s => prt s.2.2) 0 (t.length : Int) (fun j s j0 j1 hu => ?_) _ 0 (0, 0, []) (by omega) (by omega) prt_nil
  show prt (cst t b j s).2.2
  unfold cst
  split
  · exact prt_ta hu (h j j0 j1)
  · exact hu
theorem prt_mem {t : List Int} : prt t ↔ ∀ c ∈ t, 32 ≤ c ∧ c ≤ 126 := by
  constructor
  · intro h c hc
    obtain ⟨i, hi, e⟩ := List.getElem_of_mem hc
    have := h (i : Int) (by omega) (by omega)
    rw [show tg t (i : Int) = c by unfold tg; rw [if_pos (by omega), List.getD_eq_getElem?_getD, List.getElem?_eq_getElem (by omega)]; exact e] at this
    exact this
  · intro h i i0 i1
    have hi : i.toNat < t.length := by omega
    rw [show tg t i = t[i.toNat] by unfold tg; rw [if_pos i0, List.getD_eq_getElem?_getD, List.getElem?_eq_getElem hi]; rfl]
    exact h _ (List.getElem_mem hi)
theorem prt_app {t u : List Int} (h1 : prt t) (h2 : prt u) : prt (t ++ u) := prt_mem.mpr (fun c hc => by
  rcases List.mem_append.mp hc with q | q
  · exact prt_mem.mp h1 c q
  · exact prt_mem.mp h2 c q)
theorem prt_sl {t : List Int} {b m : Int} (h : prt t) : prt (sl t b m) := prt_mem.mpr (fun c hc => prt_mem.mp h c (List.mem_of_mem_drop (List.mem_of_mem_take hc)))
theorem prt_oof {t : List Int} {b c : Int} (h : prt t) : prt (oof t b c) := by
  unfold oof
  split
  · exact prt_nil
  · exact prt_app prt_nil (prt_sl h)
theorem p_give84 {N : Nat} (hN : 100 ≤ N) {S S2 : s_M} {T : Int → List Int} {k : skT} {u : List Int} (h : QX S T k) (hu : prt u) (ht : TX S2 (lset T 84 u)) (he : exT S S2) : ∃ S' T', A_giveText N 84 S2 = some (0, S') ∧ QX S' T' (sG (1, 0, u) k) ∧ exK S S' ∧ ∀ q, q < 70 → T' q = T q := by
  have q1 : QX S2 (lset T 84 u) k := h.txt ht he (fun j j0 j1 => lset_ne (by omega))
  obtain ⟨S3, T3, b1, b2, b3, b4⟩ := p_giveText (N := N) hN q1 (t := 84) (by decide) (by rw [lset_at]; exact hu)
  rw [lset_at] at b2
  exact ⟨S3, T3, b1, b2, he.exK.trans b3, fun q hq => (b4 q (Or.inl hq)).trans (lset_ne (by omega))⟩
theorem p_t27l {N : Nat} {S : s_M} {T : Int → List Int} (h : TX S T) : ∀ (m n : Nat) (i c : Int), 0 ≤ i → i + m = ((T 82).length : Int) → 0 ≤ c ∧ c ≤ i → m < n → A_texts_l141 N n 27 c i S = (bnd (A_giveNumber N (it (nst (T 82)) m i c) S) fun _ S77 => A_texts_j201 N 27 S77)
  | m, 0, i, c, h0, h1, h2, h3 => absurd h3 (Nat.not_lt_zero _)
  | 0, n + 1, i, c, h0, h1, h2, h3 => by
    have hl := h.len (k := 82) (by decide)
    rw [A_texts_l141_e, if_neg (by omega)]
    rfl
  | m + 1, n + 1, i, c, h0, h1, h2, h3 => by
    have hl := h.len (k := 82) (by decide)
    have ha := p_att (N := N) h (t := 82) (k := i) (by decide) (by omega)
    have hr := p_t27l (N := N) h m n (i + 1) (nst (T 82) i c) (by omega) (by omega) (by unfold nst; split <;> omega) (by omega)
    show _ = (bnd (A_giveNumber N (it (nst (T 82)) m (i + 1) (nst (T 82) i c)) S) fun _ S77 => A_texts_j201 N 27 S77)
    rw [← hr, A_texts_l141_e, if_pos (by omega), bnd_e ha]
    by_cases c1 : tg (T 82) i = 123
    · rw [if_pos c1, A_texts_j181_e, A_texts_j186_e, chk_e (by omega), chk_e (by omega), show nst (T 82) i c = c from if_pos (decide_eq_true (Or.inl c1)), Int.add_zero]
    · rw [if_neg c1, bnd_e ha]
      by_cases c2 : tg (T 82) i = 125
      · rw [if_pos c2, A_texts_j181_e, A_texts_j186_e, chk_e (by omega), chk_e (by omega), show nst (T 82) i c = c from if_pos (decide_eq_true (Or.inr c2)), Int.add_zero]
      · rw [if_neg c2, A_texts_j186_e, chk_e (by omega), chk_e (by omega), show nst (T 82) i c = c + 1 from if_neg (fun z => by
          rcases of_decide_eq_true z with q | q
          · exact c1 q
          · exact c2 q)]
theorem p_t25 {N : Nat} (hN : 1000 ≤ N) {S : s_M} {T : Int → List Int} {hd ns m : Int} {L : Int → Int} {s : rnT} (h : RX S T hd ns m L s) {n : Int} (hn : rL n) : ∃ S' T', A_texts N 25 n S = some (0, S') ∧ RX S' T' hd ns m L (wkT 25 (max n 0) s) ∧ exR S S' := by
  have hv : wkT 25 (max n 0) s = (sG (1, 0, kof (vT s.1) (max n 0 % 3)) (sTT s.1), s.2) := (if_neg (by decide)).trans ((if_neg (by decide)).trans (if_pos rfl))
  obtain ⟨S1, a1, a2, a3, a4, a5⟩ := p_taken (N := N) (by omega) h.1 (t := 82) (by decide)
  have hmd := md_eq (c := 3) hn (by decide)
  obtain ⟨S2, b1, b2, b3⟩ := p_capitals (N := N) (by omega) a2.1 (how := max n 0 % 3) (by rw [lset_at]; exact a4)
  rw [lset_at] at b2
  obtain ⟨S3, T3, c1, c2, c3, c4⟩ := p_give84 (N := N) (by omega) a2 (prt_kof a4) b2 b3
  refine ⟨S3, T3, ?_, ?_, (a3.trans c3).exR⟩
  · rw [A_texts_e, if_neg (by decide), A_texts_j20_e, if_neg (by decide), A_texts_j66_e, if_pos (by decide), A_texts_j78_e, bnd_e a1, if_pos (by decide), hmd, bnd_e b1, A_texts_j117_e, bnd_e c1, A_texts_j123_e, if_neg (by decide), A_texts_j201_e, if_neg (by decide), A_texts_j231_e, if_neg (by decide), A_texts_j269_e]
  · rw [hv]
    exact h.stk c2 (a3.trans c3) (fun q hq => (c4 q hq).trans (lset_ne (by omega)))
theorem p_t26 {N : Nat} (hN : 1000 ≤ N) {S : s_M} {T : Int → List Int} {hd ns m : Int} {L : Int → Int} {s : rnT} (h : RX S T hd ns m L s) {n : Int} (hn : rL n) : ∃ S' T', A_texts N 26 n S = some (0, S') ∧ RX S' T' hd ns m L (wkT 26 (max n 0) s) ∧ exR S S' := by
  have hv : wkT 26 (max n 0) s = (sG (1, 0, pof (vT s.1)) (sTT s.1), s.2) := (if_neg (by decide)).trans ((if_neg (by decide)).trans ((if_neg (by decide)).trans (if_pos rfl)))
  obtain ⟨S1, a1, a2, a3, a4, a5⟩ := p_taken (N := N) (by omega) h.1 (t := 82) (by decide)
  obtain ⟨S2, b1, b2, b3⟩ := p_purified (N := N) (by omega) a2.1
  rw [lset_at] at b2
  obtain ⟨S3, T3, c1, c2, c3, c4⟩ := p_give84 (N := N) (by omega) a2 (prt_pof a4) b2 b3
  refine ⟨S3, T3, ?_, ?_, (a3.trans c3).exR⟩
  · rw [A_texts_e, if_neg (by decide), A_texts_j20_e, if_neg (by decide), A_texts_j66_e, if_neg (by decide), if_pos (by decide), A_texts_j78_e, bnd_e a1, if_neg (by decide), bnd_e b1, A_texts_j117_e, bnd_e c1, A_texts_j123_e, if_neg (by decide), A_texts_j201_e, if_neg (by decide), A_texts_j231_e, if_neg (by decide), A_texts_j269_e]
  · rw [hv]
    exact h.stk c2 (a3.trans c3) (fun q hq => (c4 q hq).trans (lset_ne (by omega)))
theorem p_t27 {N : Nat} (hN : 1000 ≤ N) {S : s_M} {T : Int → List Int} {hd ns m : Int} {L : Int → Int} {s : rnT} (h : RX S T hd ns m L s) {n : Int} (hn : rL n) : ∃ S' T', A_texts N 27 n S = some (0, S') ∧ RX S' T' hd ns m L (wkT 27 (max n 0) s) ∧ exR S S' := by
  have hv : wkT 27 (max n 0) s = (sG (0, wi32 (nof (vT s.1)), []) (sTT s.1), s.2) := (if_neg (by decide)).trans ((if_neg (by decide)).trans ((if_neg (by decide)).trans ((if_neg (by decide)).trans (if_pos rfl))))
  obtain ⟨S1, a1, a2, a3, a4, a5⟩ := p_taken (N := N) (by omega) h.1 (t := 82) (by decide)
  have hr := nof_r (vT s.1) (((vT s.1).length : Int) - 0).toNat 0 0
  have hg : rI (nof (vT s.1)) := by unfold nof; constructor <;> omega
  obtain ⟨S2, b1, b2, b3⟩ := p_giveNumber (N := N) a2 (q := nof (vT s.1)) hg
  have hl := p_t27l (N := N) a2.1 (((vT s.1).length : Int) - 0).toNat N 0 0 (by omega) (by rw [lset_at]; omega) (by omega) (by omega)
  rw [lset_at] at hl
  have b1' : A_giveNumber N (it (nst (vT s.1)) (((vT s.1).length : Int) - 0).toNat 0 0) S1 = some (0, S2) := b1
  refine ⟨S2, lset T 82 (vT s.1), ?_, ?_, (a3.trans b3).exR⟩
  · rw [A_texts_e, if_neg (by decide), A_texts_j20_e, if_neg (by decide), A_texts_j66_e, if_neg (by decide), if_neg (by decide), A_texts_j123_e, if_pos (by decide), bnd_e a1, hl, bnd_e b1', A_texts_j201_e, if_neg (by decide), A_texts_j231_e, if_neg (by decide), A_texts_j269_e]
  · rw [hv]
    rw [wi32_id hg]
    exact h.stk b2 (a3.trans b3) (fun q hq => lset_ne (by omega))
theorem p_t28 {N : Nat} (hN : 1000 ≤ N) {S : s_M} {T : Int → List Int} {hd ns m : Int} {L : Int → Int} {s : rnT} (h : RX S T hd ns m L s) {n : Int} (hn : rL n) : ∃ S' T', A_texts N 28 n S = some (0, S') ∧ RX S' T' hd ns m L (wkT 28 (max n 0) s) ∧ exR S S' := by
  have hv : wkT 28 (max n 0) s = (sG (1, 0, cof (vT (sTN s.1)) (vN s.1)) (sTT (sTN s.1)), s.2) := (if_neg (by decide)).trans ((if_neg (by decide)).trans ((if_neg (by decide)).trans ((if_neg (by decide)).trans ((if_neg (by decide)).trans (if_pos rfl)))))
  obtain ⟨S0, z1, z2, z3, z4⟩ := p_number (N := N) h.1
  obtain ⟨S1, a1, a2, a3, a4, a5⟩ := p_taken (N := N) (by omega) z2 (t := 82) (by decide)
  obtain ⟨S2, b1, b2, b3⟩ := p_prefix (N := N) (by omega) a2.1 (b := vN s.1)
  rw [lset_at] at b2
  obtain ⟨S3, T3, c1, c2, c3, c4⟩ := p_give84 (N := N) (by omega) a2 (prt_cof a4) b2 b3
  refine ⟨S3, T3, ?_, ?_, ((z3.trans a3).trans c3).exR⟩
  · rw [A_texts_e, if_neg (by decide), A_texts_j20_e, if_neg (by decide), A_texts_j66_e, if_neg (by decide), if_neg (by decide), A_texts_j123_e, if_neg (by decide), A_texts_j201_e, if_pos (by decide), bnd_e z1, bnd_e a1, bnd_e b1, bnd_e c1, A_texts_j231_e, if_neg (by decide), A_texts_j269_e]
  · rw [hv]
    exact h.stk c2 ((z3.trans a3).trans c3) (fun q hq => (c4 q hq).trans (lset_ne (by omega)))
theorem p_t29 {N : Nat} (hN : 1000 ≤ N) {S : s_M} {T : Int → List Int} {hd ns m : Int} {L : Int → Int} {s : rnT} (h : RX S T hd ns m L s) {n : Int} (hn : rL n) : ∃ S' T', A_texts N 29 n S = some (0, S') ∧ RX S' T' hd ns m L (wkT 29 (max n 0) s) ∧ exR S S' := by
  have hv : wkT 29 (max n 0) s = (sG (1, 0, oof (vT (sTN (sTN s.1))) (vN (sTN s.1)) (vN s.1)) (sTT (sTN (sTN s.1))), s.2) := (if_neg (by decide)).trans ((if_neg (by decide)).trans ((if_neg (by decide)).trans ((if_neg (by decide)).trans ((if_neg (by decide)).trans (if_neg (by decide))))))
  obtain ⟨S0, z1, z2, z3, z4⟩ := p_number (N := N) h.1
  obtain ⟨S9, y1, y2, y3, y4⟩ := p_number (N := N) z2
  obtain ⟨S1, a1, a2, a3, a4, a5⟩ := p_taken (N := N) (by omega) y2 (t := 82) (by decide)
  obtain ⟨S2, b1, b2, b3⟩ := p_substring (N := N) (by omega) a2.1 (b := vN (sTN s.1)) (c := vN s.1) y4 z4
  rw [lset_at] at b2
  obtain ⟨S3, T3, c1, c2, c3, c4⟩ := p_give84 (N := N) (by omega) a2 (prt_oof a4) b2 b3
  refine ⟨S3, T3, ?_, ?_, (((z3.trans y3).trans a3).trans c3).exR⟩
  · rw [A_texts_e, if_neg (by decide), A_texts_j20_e, if_neg (by decide), A_texts_j66_e, if_neg (by decide), if_neg (by decide), A_texts_j123_e, if_neg (by decide), A_texts_j201_e, if_neg (by decide), A_texts_j231_e, if_pos (by decide), bnd_e z1, bnd_e y1, bnd_e a1, bnd_e b1, bnd_e c1, A_texts_j269_e]
  · rw [hv]
    exact h.stk c2 (((z3.trans y3).trans a3).trans c3) (fun q hq => (c4 q hq).trans (lset_ne (by omega)))
