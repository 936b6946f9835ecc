/-- what a run's coupling reads beside the stack -/
def exX (S S' : s_M) : Prop := ∀ q j : Int, (q = 5 ∨ q = 6 ∨ q = 7 ∨ q = 8 ∨ q = 15 ∨ q = 26 ∨ q = 27 ∨ q = 28 ∨ (q = 0 ∧ (j = 6 ∨ j = 31 ∨ j = 44 ∨ j = 45))) → S' q j = S q j
theorem exX.trans {A B C : s_M} (h1 : exX A B) (h2 : exX B C) : exX A C := fun q j a => (h2 q j a).trans (h1 q j a)
theorem exK.exX {S S' : s_M} (h : exK S S') : exX S S' := fun q j a => h q j (by omega) (by omega) (by omega) (by omega) (by omega) (by omega)
theorem exH.exX {S S' : s_M} (h : exH S S') : exX S S' := fun q j a => h q j (by omega) (by omega) (by omega) (by omega)
theorem RX.stx {S S' : s_M} {T T' : Int → List Int} {hd ns m : Int} {L : Int → Int} {s : rnT} {k : skT} (h : RX S T hd ns m L s) (hq : QX S' T' k) (he : exX S S') (eT : ∀ q, q < 70 → T' q = T q) : RX S' T' hd ns m L (k, s.2) := by
  obtain ⟨a1, a2, a3, a4, a5, a6⟩ := h
  have hl := a2.len
  refine ⟨hq, a2.exg (fun q j z => he q j (by omega)) (fun q z => eT q (by omega)), fun g g0 g1 => ?_, a4.ex (fun q j z => he q j (by omega)), ⟨(he 0 31 (by omega)).trans a5.1, a5.2⟩, fun i i0 i1 => ?_⟩
  · rw [he 15 g (by omega)]
    exact a3 g g0 g1
  · have hi := a6 i i0 i1
    exact ⟨hi.1, (eT _ (by omega)).trans hi.2⟩
theorem QX.txh {S S' : s_M} {T T' : Int → List Int} {k : skT} (h : QX S T k) (ht : TX S' T') (e : exH S S') (eT : ∀ j, 0 ≤ j → j < 12 → T' (70 + j) = T (70 + j)) : QX S' T' k := by
  obtain ⟨h1, h2, h3, h4, h5⟩ := h
  exact ⟨ht, h2.ex (fun j => e 1 j (by decide) (by decide) (by decide) (by omega)), (e 0 26 (by decide) (by decide) (by decide) (by omega)).trans h3, h4, fun j j0 j1 => (h5 j j0 j1).ex (e 16 j (by decide) (by decide) (by decide) (by omega)) (e 17 j (by decide) (by decide) (by decide) (by omega)) (eT j j0 (by omega))⟩
theorem p_t23 {N : Nat} (hN : 1000 ≤ N) {S : s_M} {T : Int → List Int} {hd ns m : Int} {L : Int → Int} {s : rnT} (h : RX S T hd ns m L s) {n : Int} (hn : rL n) : ∃ S' T', A_texts N 23 n S = some (0, S') ∧ RX S' T' hd ns m L (wkT 23 (max n 0) s) ∧ exR S S' := by
  have hv : wkT 23 (max n 0) s = (sG (0, wi32 (cnn (vT s.1)), []) (sTT s.1), s.2) := if_pos rfl
  obtain ⟨S1, a1, a2, a3, a4, a5⟩ := p_taken (N := N) (by omega) h.1 (t := 82) (by decide)
  have hpe := p_people (N := N) (by omega) a2.1 (by rw [lset_at]; exact a4)
  rw [lset_at] at hpe
  have hg0 := cnn_rng a4
  have hg : rI (cnn (vT s.1)) := ⟨by omega, by omega⟩
  obtain ⟨S2, b1, b2, b3⟩ := p_giveNumber (N := N) a2 (q := cnn (vT s.1)) hg
  refine ⟨S2, lset T 82 (vT s.1), ?_, ?_, (a3.trans b3).exR⟩
  · rw [A_texts_e, if_pos (by decide), bnd_e a1, bnd_e hpe, bnd_e b1, A_texts_j20_e, if_neg (by decide), A_texts_j66_e, if_neg (by decide), if_neg (by decide), A_texts_j123_e, if_neg (by decide), A_texts_j201_e, if_neg (by decide), A_texts_j231_e, if_neg (by decide), A_texts_j269_e]
  · rw [hv]
    rw [wi32_id hg]
    exact h.stk b2 (a3.trans b3) (fun q hq => lset_ne (by omega))
theorem p_t24 {N : Nat} (hN : 1000 ≤ N) {S : s_M} {T : Int → List Int} {hd ns m : Int} {L : Int → Int} {s : rnT} (h : RX S T hd ns m L s) {n : Int} (hn : rL n) : ∃ S' T', A_texts N 24 n S = some (0, S') ∧ RX S' T' hd ns m L (wkT 24 (max n 0) s) ∧ exR S S' := by
  have hv : wkT 24 (max n 0) s = wk24 (max n 0) s := (if_neg (by decide)).trans (if_pos rfl)
  have hmd := md_eq (c := 4) hn (by decide)
  have hm0 := Int.emod_nonneg (max n 0) (show (4 : Int) ≠ 0 by decide)
  have hm1 := Int.emod_lt_of_pos (max n 0) (show (0 : Int) < 4 by decide)
  obtain ⟨S0, z1, z2, z3, z4⟩ := p_number (N := N) h.1
  obtain ⟨S1, a1, a2, a3, a4, a5⟩ := p_taken (N := N) (by omega) z2 (t := 82) (by decide)
  have h82 : lset T 82 (vT (sTN s.1)) 82 = vT (sTN s.1) := lset_at
  rw [hv]
  by_cases c : (fnm (vT (sTN s.1)) (vN s.1)).1 = true
  · have hw : wk24 (max n 0) s = _ := if_pos c
    rw [hw]
    obtain ⟨S2, b1, b2, b3, b4⟩ := p_person_yes (N := N) (by omega) a2.1 (by rw [h82]; exact a4) (b := vN s.1) (f := max n 0 % 4) ⟨hm0, hm1⟩ (by rw [h82]; exact c) s.2.2.2.2
    rw [h82] at b2 b3
    have q2 : QX S2 (lset (lset T 82 (vT (sTN s.1))) 84 (ptP (vT (sTN s.1)) (max n 0 % 4) (tkP (vT (sTN s.1)) (fnP (vT (sTN s.1)) (vN s.1) s.2.2.2.2)))) (sTT (sTN s.1)) := a2.txh b2 b4 (fun j j0 j1 => lset_ne (by omega))
    obtain ⟨S3, T3, c1, c2, c3, c4⟩ := p_giveText (N := N) (by omega) q2 (t := 84) (by decide) (by rw [lset_at]; exact b3)
    rw [lset_at] at c2
    refine ⟨S3, T3, ?_, ?_, ((z3.trans a3).exR.trans b4.exR).trans c3.exR⟩
    · rw [A_texts_e, if_neg (by decide), A_texts_j20_e, if_pos (by decide), bnd_e z1, bnd_e a1, hmd, bnd_e b1, bnd_e c1, A_texts_j66_e, if_neg (by decide), if_neg (by decide), A_texts_j123_e, if_neg (by decide), A_texts_j201_e, if_neg (by decide), A_texts_j231_e, if_neg (by decide), A_texts_j269_e]
    · exact h.stx c2 (((z3.trans a3).exX.trans b4.exX).trans c3.exX) (fun q hq => (c4 q (Or.inl hq)).trans ((lset_ne (by omega)).trans (lset_ne (by omega))))
  · have hw : wk24 (max n 0) s = _ := if_neg c
    rw [hw]
    have b1 := p_person_no (N := N) (by omega) a2.1 (by rw [h82]; exact a4) (b := vN s.1) (f := max n 0 % 4) (by rw [h82]; exact c)
    have hc := a2.1.clear (t := 84)
    have q2 : QX (m_s S1 3 84 0) (lset (lset T 82 (vT (sTN s.1))) 84 []) (sTT (sTN s.1)) := a2.txt hc.1 hc.2 (fun j j0 j1 => lset_ne (by omega))
    have q3 := q2.warn (i := 9) (by decide)
    have x3 : exK (m_s S1 3 84 0) (m_s (m_s S1 3 84 0) 1 9 (wi32 (m_s S1 3 84 0 1 9 + 1))) := exK.put (by omega)
    obtain ⟨S3, T3, c1, c2, c3, c4⟩ := p_giveText (N := N) (by omega) q3 (t := 84) (by decide) (by rw [lset_at]; exact prt_nil)
    rw [lset_at] at c2
    have xx : exK S S3 := (((z3.trans a3).trans hc.2.exK).trans x3).trans c3
    refine ⟨S3, T3, ?_, ?_, xx.exR⟩
    · rw [A_texts_e, if_neg (by decide), A_texts_j20_e, if_pos (by decide), bnd_e z1, bnd_e a1, hmd, bnd_e b1, bnd_e c1, A_texts_j66_e, if_neg (by decide), if_neg (by decide), A_texts_j123_e, if_neg (by decide), A_texts_j201_e, if_neg (by decide), A_texts_j231_e, if_neg (by decide), A_texts_j269_e]
    · exact h.stk c2 xx (fun q hq => (c4 q (Or.inl hq)).trans ((lset_ne (by omega)).trans (lset_ne (by omega))))
theorem p_texts {N : Nat} (hN : 1000 ≤ N) {S : s_M} {T : Int → List Int} {hd ns m : Int} {L : Int → Int} {s : rnT} (h : RX S T hd ns m L s) {n op : Int} (hn : rL n) (ho : 23 ≤ op ∧ op ≤ 29) : ∃ S' T', A_texts N op n S = some (0, S') ∧ RX S' T' hd ns m L (wkT op (max n 0) s) ∧ exR S S' := by
  rcases (by omega : op = 23 ∨ op = 24 ∨ op = 25 ∨ op = 26 ∨ op = 27 ∨ op = 28 ∨ op = 29) with q23 | q24 | q25 | q26 | q27 | q28 | q29
  · subst q23
    exact p_t23 hN h hn
  · subst q24
    exact p_t24 hN h hn
  · subst q25
    exact p_t25 hN h hn
  · subst q26
    exact p_t26 hN h hn
  · subst q27
    exact p_t27 hN h hn
  · subst q28
    exact p_t28 hN h hn
  · subst q29
    exact p_t29 hN h hn
