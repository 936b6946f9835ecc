/-- rows that a run leaves as they are -/
def kpq (q j : Int) : Prop := q ≠ 1 ∧ q ≠ 3 ∧ q ≠ 4 ∧ q ≠ 15 ∧ q ≠ 16 ∧ q ≠ 17 ∧ (q < 22 ∨ 28 < q) ∧ ¬ (q = 0 ∧ (j = 26 ∨ j = 49 ∨ j = 37 ∨ j = 38 ∨ j = 43 ∨ j = 44 ∨ j = 45))
def exR (S S' : s_M) : Prop := ∀ q j : Int, kpq q j → S' q j = S q j
theorem exR.refl (S : s_M) : exR S S := fun _ _ _ => rfl
theorem exR.trans {A B C : s_M} (h1 : exR A B) (h2 : exR B C) : exR A C := fun q j a => (h2 q j a).trans (h1 q j a)
theorem exK.exR {S S' : s_M} (h : exK S S') : exR S S' := fun q j a => by
  obtain ⟨a1, a2, a3, a4, a5, a6, a7, a8⟩ := a
  exact h q j a1 a2 a3 a5 a6 (fun z => a8 ⟨z.1, by omega⟩)
theorem exP.exR {S S' : s_M} (h : exP S S') : exR S S' := fun q j a => by
  obtain ⟨a1, a2, a3, a4, a5, a6, a7, a8⟩ := a
  exact h q j (by omega) (by omega) (by omega) (fun z => a8 ⟨z.1, by omega⟩)
theorem exR.put {S : s_M} {q j x : Int} (h : ¬ kpq q j) : exR S (m_s S q j x) := fun q' j' a => m_s_n (fun z => h (by rw [← z.1, ← z.2]; exact a))
def gbl (S : s_M) (G : Int → Int) : Prop := ∀ g : Int, 0 ≤ g → g < 4 → S 15 g = G g ∧ rI (G g)
def srk (T : Int → List Int) (E : Int → sen) (ns m : Int) (L : Int → Int) : Prop := ∀ i : Int, 0 ≤ i → i < m → (0 ≤ L i ∧ L i < ns) ∧ T (62 + L i) = (E (L i)).2.2.2
def RX (S : s_M) (T : Int → List Int) (hd ns m : Int) (L : Int → Int) (s : rnT) : Prop := QX S T s.1 ∧ EX S T s.2.1.2 ns ∧ gbl S s.2.1.1 ∧ PX S s.2.2.1 ∧ (S 0 31 = hd ∧ -1 ≤ hd ∧ hd < ns) ∧ srk T s.2.1.2 ns m L
theorem PX.ex {S S' : s_M} {s : pgs} (h : PX S s) (e : ∀ q j : Int, q = 26 ∨ q = 27 ∨ q = 28 ∨ (q = 0 ∧ (j = 44 ∨ j = 45)) → S' q j = S q j) : PX S' s := by
  obtain ⟨a1, a2, a3, a4, a5, a6⟩ := h
  refine ⟨(e 0 44 (by omega)).trans a1, a2, (e 0 45 (by omega)).trans a3, a4, fun i i0 i1 => (e 26 i (by omega)).trans (a5 i i0 i1), fun i i0 i1 i2 => ?_⟩
  obtain ⟨b1, b2, b3⟩ := a6 i i0 i1 i2
  exact ⟨b1, (e 27 i (by omega)).trans b2, fun j j0 j1 => (e 28 _ (by omega)).trans (b3 j j0 j1)⟩
theorem EX.exg {S S' : s_M} {T T' : Int → List Int} {E : Int → sen} {ns : Int} (h : EX S T E ns) (e : ∀ q j : Int, q = 5 ∨ q = 6 ∨ q = 7 ∨ q = 8 ∨ (q = 0 ∧ j = 6) → S' q j = S q j) (eT : ∀ q, q < 54 → T' q = T q) : EX S' T' E ns := by
  obtain ⟨a1, a2, a3, a4⟩ := h
  exact ⟨(e 0 6 (by omega)).trans a1, a2, fun k e0 e1 => (a3 k e0 e1).ex (e 5 k (by omega)) (e 6 k (by omega)) (e 7 k (by omega)) (fun j => e 8 j (by omega)) (fun f f0 f1 => eT _ (by omega)), a4⟩
theorem EX.len {S : s_M} {T : Int → List Int} {E : Int → sen} {ns : Int} (h : EX S T E ns) : 0 ≤ ns ∧ ns ≤ 8 := h.2.1
theorem RX.stk {S S' : s_M} {T T' : Int → List Int} {hd ns m : Int} {L : Int → Int} {s : rnT} {k : skT} (h : RX S T hd ns m L s) (hq : QX S' T' k) (he : exK S S') (eT : ∀ q, q < 70 → T' q = T q) : RX S' T' hd ns m L (k, s.2) := by
  obtain ⟨a1, a2, a3, a4, a5, a6⟩ := h
  have hl := a2.len
  refine ⟨hq, a2.ex he eT, fun g g0 g1 => ?_, a4.ex (fun q j z => he q j (by omega) (by omega) (by omega) (by omega) (by omega) (by omega)), ⟨(he 0 31 (by decide) (by decide) (by decide) (by decide) (by decide) (by omega)).trans a5.1, a5.2⟩, fun i i0 i1 => ?_⟩
  · rw [he 15 g (by decide) (by decide) (by decide) (by decide) (by decide) (by omega)]
    exact a3 g g0 g1
  · have hi := a6 i i0 i1
    exact ⟨hi.1, (eT _ (by omega)).trans hi.2⟩
theorem RX.pag {S S' : s_M} {T : Int → List Int} {hd ns m : Int} {L : Int → Int} {s : rnT} {p : pgs} (h : RX S T hd ns m L s) (hp : PX S' p) (he : exP S S') : RX S' T hd ns m L (s.1, s.2.1, p, s.2.2.2) := by
  obtain ⟨a1, a2, a3, a4, a5, a6⟩ := h
  obtain ⟨b1, b2, b3, b4, b5⟩ := a1
  have eh : ∀ q j : Int, (q < 26 ∨ 28 < q) → ¬ (q = 0 ∧ (j = 44 ∨ j = 45)) → S' q j = S q j := fun q j z y => he q j (by omega) (by omega) (by omega) y
  refine ⟨⟨b1.ex (fun q j z => eh q j (by omega) (by omega)), b2.ex (fun j => eh 1 j (by omega) (by omega)), (eh 0 26 (by omega) (by omega)).trans b3, b4, fun i i0 i1 => (b5 i i0 i1).ex (eh 16 i (by omega) (by omega)) (eh 17 i (by omega) (by omega)) rfl⟩, a2.exg (fun q j z => eh q j (by omega) (by omega)) (fun q _ => rfl), fun g g0 g1 => ?_, hp, ⟨(eh 0 31 (by omega) (by omega)).trans a5.1, a5.2⟩, a6⟩
  rw [eh 15 g (by omega) (by omega)]
  exact a3 g g0 g1
theorem fo_in {S : s_M} {T : Int → List Int} {E : Int → sen} {ns j v : Int} (h : EX S T E ns) (hj : 0 ≤ j ∧ j < ns) (h2 : 0 ≤ (fo E ns j v).2) : (0 ≤ (fo E ns j v).1 ∧ (fo E ns j v).1 < ns) ∧ (fo E ns j v).2 < (E (fo E ns j v).1).1.2.2.2 := by
  have hE : ∀ i, 0 ≤ i → i < ns → 0 ≤ fE E i v → fE E i v < (E i).1.2.2.2 := fun i i0 i1 i2 => by
    have e := (h.2.2.1 i i0 i1).2.2.2.1
    have := fx_rng (W := (E i).2.1) (n := (E i).1.2.2.2) (w := v) e.1
    unfold fE at i2 ⊢
    omega
  have hc := fx_rng (W := kE E) (n := ns) (w := (E j).1.2.2.1) h.len.1
  have hc2 : cE E ns j = fx (kE E) ns (E j).1.2.2.1 := rfl
  unfold fo at h2 ⊢
  by_cases c1 : v = 0
  · rw [if_pos c1] at h2
    exact absurd h2 (by show ¬ (0 : Int) ≤ -1; decide)
  · rw [if_neg c1] at h2 ⊢
    by_cases c2 : 0 ≤ fE E j v ∨ v = xref
    · rw [if_pos c2] at h2 ⊢
      exact ⟨hj, hE j hj.1 hj.2 h2⟩
    · rw [if_neg c2] at h2 ⊢
      by_cases c3 : 0 ≤ cE E ns j
      · rw [if_pos c3] at h2 ⊢
        exact ⟨⟨c3, by show cE E ns j < ns; omega⟩, hE _ c3 (by omega) h2⟩
      · rw [if_neg c3] at h2
        exact absurd h2 (by show ¬ (0 : Int) ≤ -1; decide)
theorem p_fields {N : Nat} (hN : 100 ≤ N) {S : s_M} {T : Int → List Int} {k : skT} {E : Int → sen} {hd ns x : Int} (h : QX S T k) (hE : EX S T E ns) (hh : S 0 31 = hd ∧ -1 ≤ hd ∧ hd < ns) : ∃ S' T', A_fields N x S = some (0, S') ∧ QX S' T' (sG (fdv hd ns E (wof (u64 x))) k) ∧ exK S S' ∧ ∀ q, q < 70 → T' q = T q := by
  have hl := hE.len
  by_cases c0 : hd < 0
  · obtain ⟨S1, a1, a2, a3⟩ := p_giveMissing (N := N) h
    refine ⟨S1, T, ?_, ?_, a3, fun q _ => rfl⟩
    · rw [A_fields_e, if_pos (by omega), A_fields_j23_e, if_pos (by decide), bnd_e a1, A_fields_j40_e]
    · rw [show fdv hd ns E (wof (u64 x)) = (2, 0, []) from if_neg (by omega)]
      exact a2
  · have hf := p_fieldOf (N := N) hN (T := T) (v := wof (u64 x)) (w := mwof (u64 x)) h.1 hE (j := hd) (by omega) (by
      by_cases c : wof (u64 x) = 0
      · exact Or.inr ⟨c, mw_no c⟩
      · exact Or.inl ⟨(mw_yes c).symm, c⟩)
    have hm := mwof_rng (u64 x)
    unfold foR at hf
    by_cases c1 : (fo E ns hd (wof (u64 x))).2 < 0
    · rw [if_pos c1] at hf
      obtain ⟨S1, a1, a2, a3⟩ := p_giveMissing (N := N) h
      refine ⟨S1, T, ?_, ?_, a3, fun q _ => rfl⟩
      · rw [A_fields_e, if_neg (by omega), chk_e ⟨by omega, by omega⟩, hh.1, bnd_e hf, A_fields_j23_e, if_pos (by decide), bnd_e a1, A_fields_j40_e]
      · rw [show fdv hd ns E (wof (u64 x)) = (2, 0, []) from if_neg (by omega)]
        exact a2
    · rw [if_neg c1] at hf
      obtain ⟨d1, d2⟩ := fo_in hE (j := hd) (v := wof (u64 x)) (by omega) (by omega)
      have hen := hE.2.2.1 _ d1.1 d1.2
      have hen2 := hen.2.2.2.1
      obtain ⟨e1, e2, e3, e4⟩ := hen.2.2.2.2.1 _ (by omega) d2
      obtain ⟨S1, T1, a1, a2, a3, a4⟩ := p_giveText (N := N) hN h (t := 6 * (fo E ns hd (wof (u64 x))).1 + (fo E ns hd (wof (u64 x))).2) (by omega) (by rw [e2]; exact e3)
      refine ⟨S1, T1, ?_, ?_, a3, fun q hq => a4 q (Or.inl hq)⟩
      · rw [A_fields_e, if_neg (by omega), chk_e ⟨by omega, by omega⟩, hh.1, bnd_e hf, A_fields_j23_e, if_neg (by omega), bnd_e a1, A_fields_j40_e]
      · rw [show fdv hd ns E (wof (u64 x)) = (1, 0, (E (fo E ns hd (wof (u64 x))).1).2.2.1 (fo E ns hd (wof (u64 x))).2) from if_pos (by omega)]
        rw [e2] at a2
        exact a2
theorem p_s0 {N : Nat} (hN : 100 ≤ N) {S : s_M} {T : Int → List Int} {k : skT} {E : Int → sen} {hd ns x : Int} (h : QX S T k) (hE : EX S T E ns) (hh : S 0 31 = hd ∧ -1 ≤ hd ∧ hd < ns) : ∃ S' T', A_simple N 0 x S = some (0, S') ∧ QX S' T' (wsk hd ns E 0 x k) ∧ exK S S' ∧ ∀ q, q < 70 → T' q = T q := by
  obtain ⟨S1, a1, a2, a3⟩ := p_giveNumber (N := N) h (q := wi32 x) (wi32_rng x)
  have hv : wsk hd ns E 0 x k = sG (0, wi32 x, []) k := if_pos rfl
  refine ⟨S1, T, ?_, ?_, a3, fun q _ => rfl⟩
  · rw [A_simple_e, if_pos (by decide), bnd_e a1, A_simple_j10_e, if_neg (by decide), A_simple_j28_e, if_neg (by decide), A_simple_j38_e, if_neg (by decide), A_simple_j117_e, if_neg (by decide), A_simple_j127_e, if_neg (by decide), A_simple_j137_e, if_neg (by decide), A_simple_j150_e, if_neg (by decide), if_neg (by decide), A_simple_j177_e, if_neg (by decide), A_simple_j187_e]
  · rw [hv]
    exact a2
theorem p_s1 {N : Nat} (hN : 100 ≤ N) {S : s_M} {T : Int → List Int} {k : skT} {E : Int → sen} {hd ns x : Int} (h : QX S T k) (hE : EX S T E ns) (hh : S 0 31 = hd ∧ -1 ≤ hd ∧ hd < ns) : ∃ S' T', A_simple N 1 x S = some (0, S') ∧ QX S' T' (wsk hd ns E 1 x k) ∧ exK S S' ∧ ∀ q, q < 70 → T' q = T q := by
  obtain ⟨S1, a1, a2, a3⟩ := p_unpack (N := N) hN h.1 (x := x) (t := 84) (by decide)
  have q1 : QX S1 (lset T 84 (uof (u64 x))) k := h.txt a2 a3 (fun j j0 j1 => lset_ne (by omega))
  obtain ⟨S2, T2, b1, b2, b3, b4⟩ := p_giveText (N := N) hN q1 (t := 84) (by decide) (by rw [lset_at]; exact (uof_prt _).1)
  rw [lset_at] at b2
  have hv : wsk hd ns E 1 x k = sG (1, 0, uof (u64 x)) k := (if_neg (by decide)).trans (if_pos rfl)
  refine ⟨S2, T2, ?_, ?_, a3.exK.trans b3, fun q hq => (b4 q (Or.inl hq)).trans (lset_ne (by omega))⟩
  · rw [A_simple_e, if_neg (by decide), A_simple_j10_e, if_pos (by decide), bnd_e a1, bnd_e b1, A_simple_j28_e, if_neg (by decide), A_simple_j38_e, if_neg (by decide), A_simple_j117_e, if_neg (by decide), A_simple_j127_e, if_neg (by decide), A_simple_j137_e, if_neg (by decide), A_simple_j150_e, if_neg (by decide), if_neg (by decide), A_simple_j177_e, if_neg (by decide), A_simple_j187_e]
  · rw [hv]
    exact b2
theorem p_s2 {N : Nat} (hN : 100 ≤ N) {S : s_M} {T : Int → List Int} {k : skT} {E : Int → sen} {hd ns x : Int} (h : QX S T k) (hE : EX S T E ns) (hh : S 0 31 = hd ∧ -1 ≤ hd ∧ hd < ns) : ∃ S' T', A_simple N 2 x S = some (0, S') ∧ QX S' T' (wsk hd ns E 2 x k) ∧ exK S S' ∧ ∀ q, q < 70 → T' q = T q := by
  obtain ⟨S1, T1, a1, a2, a3, a4⟩ := p_fields (N := N) hN (x := x) h hE hh
  have hv : wsk hd ns E 2 x k = sG (fdv hd ns E (wof (u64 x))) k := (if_neg (by decide)).trans ((if_neg (by decide)).trans (if_pos rfl))
  refine ⟨S1, T1, ?_, ?_, a3, a4⟩
  · rw [A_simple_e, if_neg (by decide), A_simple_j10_e, if_neg (by decide), A_simple_j28_e, if_pos (by decide), bnd_e a1, A_simple_j38_e, if_neg (by decide), A_simple_j117_e, if_neg (by decide), A_simple_j127_e, if_neg (by decide), A_simple_j137_e, if_neg (by decide), A_simple_j150_e, if_neg (by decide), if_neg (by decide), A_simple_j177_e, if_neg (by decide), A_simple_j187_e]
  · rw [hv]
    exact a2
theorem p_s3 {N : Nat} (hN : 100 ≤ N) {S : s_M} {T : Int → List Int} {k : skT} {E : Int → sen} {hd ns x : Int} (h : QX S T k) (hE : EX S T E ns) (hh : S 0 31 = hd ∧ -1 ≤ hd ∧ hd < ns) : ∃ S' T', A_simple N 3 x S = some (0, S') ∧ QX S' T' (wsk hd ns E 3 x k) ∧ exK S S' ∧ ∀ q, q < 70 → T' q = T q := by
  obtain ⟨S1, a1, a2, a3, -⟩ := p_number (N := N) h
  obtain ⟨S2, b1, b2, b3, -⟩ := p_number (N := N) a2
  obtain ⟨S3, c1, c2, c3⟩ := p_giveNumber (N := N) b2 (q := wi32 (vN (sTN k) + vN k)) (wi32_rng _)
  have hr : rck 3 (vN (sTN k)) (vN k) = wi32 (vN (sTN k) + vN k) := if_pos rfl
  have hv : wsk hd ns E 3 x k = sG (0, rck 3 (vN (sTN k)) (vN k), []) (sTN (sTN k)) := (if_neg (by decide)).trans ((if_neg (by decide)).trans ((if_neg (by decide)).trans ((if_neg (by decide)).trans ((if_neg (by decide)).trans ((if_neg (by decide)).trans ((if_neg (by decide)).trans ((if_neg (by decide)).trans (if_neg (by decide)))))))))
  refine ⟨S3, T, ?_, ?_, (a3.trans b3).trans c3, fun q _ => rfl⟩
  · rw [A_simple_e, if_neg (by decide), A_simple_j10_e, if_neg (by decide), A_simple_j28_e, if_neg (by decide), A_simple_j38_e, if_pos (by decide), bnd_e a1, bnd_e b1, if_pos (by decide), A_simple_j114_e, bnd_e c1, A_simple_j117_e, if_neg (by decide), A_simple_j127_e, if_neg (by decide), A_simple_j137_e, if_neg (by decide), A_simple_j150_e, if_neg (by decide), if_neg (by decide), A_simple_j177_e, if_neg (by decide), A_simple_j187_e]
  · rw [hv]
    exact by rw [hr]; exact c2
theorem p_s4 {N : Nat} (hN : 100 ≤ N) {S : s_M} {T : Int → List Int} {k : skT} {E : Int → sen} {hd ns x : Int} (h : QX S T k) (hE : EX S T E ns) (hh : S 0 31 = hd ∧ -1 ≤ hd ∧ hd < ns) : ∃ S' T', A_simple N 4 x S = some (0, S') ∧ QX S' T' (wsk hd ns E 4 x k) ∧ exK S S' ∧ ∀ q, q < 70 → T' q = T q := by
  obtain ⟨S1, a1, a2, a3, -⟩ := p_number (N := N) h
  obtain ⟨S2, b1, b2, b3, -⟩ := p_number (N := N) a2
  obtain ⟨S3, c1, c2, c3⟩ := p_giveNumber (N := N) b2 (q := wi32 (vN (sTN k) - vN k)) (wi32_rng _)
  have hr : rck 4 (vN (sTN k)) (vN k) = wi32 (vN (sTN k) - vN k) := (if_neg (by decide)).trans (if_pos rfl)
  have hv : wsk hd ns E 4 x k = sG (0, rck 4 (vN (sTN k)) (vN k), []) (sTN (sTN k)) := (if_neg (by decide)).trans ((if_neg (by decide)).trans ((if_neg (by decide)).trans ((if_neg (by decide)).trans ((if_neg (by decide)).trans ((if_neg (by decide)).trans ((if_neg (by decide)).trans ((if_neg (by decide)).trans (if_neg (by decide)))))))))
  refine ⟨S3, T, ?_, ?_, (a3.trans b3).trans c3, fun q _ => rfl⟩
  · rw [A_simple_e, if_neg (by decide), A_simple_j10_e, if_neg (by decide), A_simple_j28_e, if_neg (by decide), A_simple_j38_e, if_pos (by decide), bnd_e a1, bnd_e b1, if_neg (by decide), if_pos (by decide), A_simple_j114_e, bnd_e c1, A_simple_j117_e, if_neg (by decide), A_simple_j127_e, if_neg (by decide), A_simple_j137_e, if_neg (by decide), A_simple_j150_e, if_neg (by decide), if_neg (by decide), A_simple_j177_e, if_neg (by decide), A_simple_j187_e]
  · rw [hv]
    exact by rw [hr]; exact c2
theorem p_s5 {N : Nat} (hN : 100 ≤ N) {S : s_M} {T : Int → List Int} {k : skT} {E : Int → sen} {hd ns x : Int} (h : QX S T k) (hE : EX S T E ns) (hh : S 0 31 = hd ∧ -1 ≤ hd ∧ hd < ns) : ∃ S' T', A_simple N 5 x S = some (0, S') ∧ QX S' T' (wsk hd ns E 5 x k) ∧ exK S S' ∧ ∀ q, q < 70 → T' q = T q := by
  obtain ⟨S1, a1, a2, a3, -⟩ := p_number (N := N) h
  obtain ⟨S2, b1, b2, b3, -⟩ := p_number (N := N) a2
  obtain ⟨S3, c1, c2, c3⟩ := p_giveNumber (N := N) b2 (q := if vN (sTN k) < vN k then 1 else 0) (by split <;> decide)
  have hr : rck 5 (vN (sTN k)) (vN k) = if vN (sTN k) < vN k then 1 else 0 := (if_neg (by decide)).trans ((if_neg (by decide)).trans (if_pos rfl))
  have hv : wsk hd ns E 5 x k = sG (0, rck 5 (vN (sTN k)) (vN k), []) (sTN (sTN k)) := (if_neg (by decide)).trans ((if_neg (by decide)).trans ((if_neg (by decide)).trans ((if_neg (by decide)).trans ((if_neg (by decide)).trans ((if_neg (by decide)).trans ((if_neg (by decide)).trans ((if_neg (by decide)).trans (if_neg (by decide)))))))))
  refine ⟨S3, T, ?_, ?_, (a3.trans b3).trans c3, fun q _ => rfl⟩
  · rw [A_simple_e, if_neg (by decide), A_simple_j10_e, if_neg (by decide), A_simple_j28_e, if_neg (by decide), A_simple_j38_e, if_pos (by decide), bnd_e a1, bnd_e b1, if_neg (by decide), if_neg (by decide), if_pos (by decide), A_simple_j114_e, bnd_e c1, A_simple_j117_e, if_neg (by decide), A_simple_j127_e, if_neg (by decide), A_simple_j137_e, if_neg (by decide), A_simple_j150_e, if_neg (by decide), if_neg (by decide), A_simple_j177_e, if_neg (by decide), A_simple_j187_e]
  · rw [hv]
    exact by rw [hr]; exact c2
theorem p_s6 {N : Nat} (hN : 100 ≤ N) {S : s_M} {T : Int → List Int} {k : skT} {E : Int → sen} {hd ns x : Int} (h : QX S T k) (hE : EX S T E ns) (hh : S 0 31 = hd ∧ -1 ≤ hd ∧ hd < ns) : ∃ S' T', A_simple N 6 x S = some (0, S') ∧ QX S' T' (wsk hd ns E 6 x k) ∧ exK S S' ∧ ∀ q, q < 70 → T' q = T q := by
  obtain ⟨S1, a1, a2, a3, -⟩ := p_number (N := N) h
  obtain ⟨S2, b1, b2, b3, -⟩ := p_number (N := N) a2
  obtain ⟨S3, c1, c2, c3⟩ := p_giveNumber (N := N) b2 (q := if vN k < vN (sTN k) then 1 else 0) (by split <;> decide)
  have hr : rck 6 (vN (sTN k)) (vN k) = if vN k < vN (sTN k) then 1 else 0 := (if_neg (by decide)).trans ((if_neg (by decide)).trans (if_neg (by decide)))
  have hv : wsk hd ns E 6 x k = sG (0, rck 6 (vN (sTN k)) (vN k), []) (sTN (sTN k)) := (if_neg (by decide)).trans ((if_neg (by decide)).trans ((if_neg (by decide)).trans ((if_neg (by decide)).trans ((if_neg (by decide)).trans ((if_neg (by decide)).trans ((if_neg (by decide)).trans ((if_neg (by decide)).trans (if_neg (by decide)))))))))
  refine ⟨S3, T, ?_, ?_, (a3.trans b3).trans c3, fun q _ => rfl⟩
  · rw [A_simple_e, if_neg (by decide), A_simple_j10_e, if_neg (by decide), A_simple_j28_e, if_neg (by decide), A_simple_j38_e, if_pos (by decide), bnd_e a1, bnd_e b1, if_neg (by decide), if_neg (by decide), if_neg (by decide), A_simple_j114_e, bnd_e c1, A_simple_j117_e, if_neg (by decide), A_simple_j127_e, if_neg (by decide), A_simple_j137_e, if_neg (by decide), A_simple_j150_e, if_neg (by decide), if_neg (by decide), A_simple_j177_e, if_neg (by decide), A_simple_j187_e]
  · rw [hv]
    exact by rw [hr]; exact c2
theorem p_s7 {N : Nat} (hN : 100 ≤ N) {S : s_M} {T : Int → List Int} {k : skT} {E : Int → sen} {hd ns x : Int} (h : QX S T k) (hE : EX S T E ns) (hh : S 0 31 = hd ∧ -1 ≤ hd ∧ hd < ns) : ∃ S' T', A_simple N 7 x S = some (0, S') ∧ QX S' T' (wsk hd ns E 7 x k) ∧ exK S S' ∧ ∀ q, q < 70 → T' q = T q := by
  obtain ⟨S1, T1, a1, a2, a3, a4⟩ := p_compares (N := N) hN h
  have hv : wsk hd ns E 7 x k = sG (0, s_b (smA (vA (sTA k)) (vA k)), []) (sTA (sTA k)) := (if_neg (by decide)).trans ((if_neg (by decide)).trans ((if_neg (by decide)).trans (if_pos rfl)))
  refine ⟨S1, T1, ?_, ?_, a3, a4⟩
  · rw [A_simple_e, if_neg (by decide), A_simple_j10_e, if_neg (by decide), A_simple_j28_e, if_neg (by decide), A_simple_j38_e, if_neg (by decide), A_simple_j117_e, if_pos (by decide), bnd_e a1, A_simple_j127_e, if_neg (by decide), A_simple_j137_e, if_neg (by decide), A_simple_j150_e, if_neg (by decide), if_neg (by decide), A_simple_j177_e, if_neg (by decide), A_simple_j187_e]
  · rw [hv]
    exact a2
theorem p_s8 {N : Nat} (hN : 100 ≤ N) {S : s_M} {T : Int → List Int} {k : skT} {E : Int → sen} {hd ns x : Int} (h : QX S T k) (hE : EX S T E ns) (hh : S 0 31 = hd ∧ -1 ≤ hd ∧ hd < ns) : ∃ S' T', A_simple N 8 x S = some (0, S') ∧ QX S' T' (wsk hd ns E 8 x k) ∧ exK S S' ∧ ∀ q, q < 70 → T' q = T q := by
  obtain ⟨S1, T1, a1, a2, a3, a4⟩ := p_joined (N := N) hN h
  have hv : wsk hd ns E 8 x k = sG (1, 0, jnt (vT (sTT k)) (vT k)) (sTT (sTT k)) := (if_neg (by decide)).trans ((if_neg (by decide)).trans ((if_neg (by decide)).trans ((if_neg (by decide)).trans (if_pos rfl))))
  refine ⟨S1, T1, ?_, ?_, a3, a4⟩
  · rw [A_simple_e, if_neg (by decide), A_simple_j10_e, if_neg (by decide), A_simple_j28_e, if_neg (by decide), A_simple_j38_e, if_neg (by decide), A_simple_j117_e, if_neg (by decide), A_simple_j127_e, if_pos (by decide), bnd_e a1, A_simple_j137_e, if_neg (by decide), A_simple_j150_e, if_neg (by decide), if_neg (by decide), A_simple_j177_e, if_neg (by decide), A_simple_j187_e]
  · rw [hv]
    exact a2
theorem p_s9 {N : Nat} (hN : 100 ≤ N) {S : s_M} {T : Int → List Int} {k : skT} {E : Int → sen} {hd ns x : Int} (h : QX S T k) (hE : EX S T E ns) (hh : S 0 31 = hd ∧ -1 ≤ hd ∧ hd < ns) : ∃ S' T', A_simple N 9 x S = some (0, S') ∧ QX S' T' (wsk hd ns E 9 x k) ∧ exK S S' ∧ ∀ q, q < 70 → T' q = T q := by
  obtain ⟨S1, a1, a2, a3, -⟩ := p_any (N := N) hN h (t := 82) (by decide)
  have hv : wsk hd ns E 9 x k = sTA k := (if_neg (by decide)).trans ((if_neg (by decide)).trans ((if_neg (by decide)).trans ((if_neg (by decide)).trans ((if_neg (by decide)).trans (if_pos rfl)))))
  refine ⟨S1, lset T 82 (vA k).2.2, ?_, ?_, a3, fun q hq => lset_ne (by omega)⟩
  · rw [A_simple_e, if_neg (by decide), A_simple_j10_e, if_neg (by decide), A_simple_j28_e, if_neg (by decide), A_simple_j38_e, if_neg (by decide), A_simple_j117_e, if_neg (by decide), A_simple_j127_e, if_neg (by decide), A_simple_j137_e, if_pos (by decide), bnd_e a1, A_simple_j150_e, if_neg (by decide), if_neg (by decide), A_simple_j177_e, if_neg (by decide), A_simple_j187_e]
  · rw [hv]
    exact a2
theorem p_s10 {N : Nat} (hN : 100 ≤ N) {S : s_M} {T : Int → List Int} {k : skT} {E : Int → sen} {hd ns x : Int} (h : QX S T k) (hE : EX S T E ns) (hh : S 0 31 = hd ∧ -1 ≤ hd ∧ hd < ns) : ∃ S' T', A_simple N 10 x S = some (0, S') ∧ QX S' T' (wsk hd ns E 10 x k) ∧ exK S S' ∧ ∀ q, q < 70 → T' q = T q := by
  obtain ⟨S1, T1, a1, a2, a3, a4⟩ := p_exchanges (N := N) hN h true
  have a1' : A_exchanges N (if (10 : Int) = 10 then (1 : Int) else 0) S = some (0, S1) := a1
  have hv : wsk hd ns E 10 x k = sG (vA k) (sG (vA k) (sTA k)) := (if_neg (by decide)).trans ((if_neg (by decide)).trans ((if_neg (by decide)).trans ((if_neg (by decide)).trans ((if_neg (by decide)).trans ((if_neg (by decide)).trans (if_pos rfl))))))
  refine ⟨S1, T1, ?_, ?_, a3, a4⟩
  · rw [A_simple_e, if_neg (by decide), A_simple_j10_e, if_neg (by decide), A_simple_j28_e, if_neg (by decide), A_simple_j38_e, if_neg (by decide), A_simple_j117_e, if_neg (by decide), A_simple_j127_e, if_neg (by decide), A_simple_j137_e, if_neg (by decide), A_simple_j150_e, if_pos (by decide), A_simple_j162_e, bnd_e a1', A_simple_j177_e, if_neg (by decide), A_simple_j187_e]
  · rw [hv]
    exact a2
theorem p_s11 {N : Nat} (hN : 100 ≤ N) {S : s_M} {T : Int → List Int} {k : skT} {E : Int → sen} {hd ns x : Int} (h : QX S T k) (hE : EX S T E ns) (hh : S 0 31 = hd ∧ -1 ≤ hd ∧ hd < ns) : ∃ S' T', A_simple N 11 x S = some (0, S') ∧ QX S' T' (wsk hd ns E 11 x k) ∧ exK S S' ∧ ∀ q, q < 70 → T' q = T q := by
  obtain ⟨S1, T1, a1, a2, a3, a4⟩ := p_exchanges (N := N) hN h false
  have a1' : A_exchanges N (if (11 : Int) = 10 then (1 : Int) else 0) S = some (0, S1) := a1
  have hv : wsk hd ns E 11 x k = sG (vA (sTA k)) (sG (vA k) (sTA (sTA k))) := (if_neg (by decide)).trans ((if_neg (by decide)).trans ((if_neg (by decide)).trans ((if_neg (by decide)).trans ((if_neg (by decide)).trans ((if_neg (by decide)).trans ((if_neg (by decide)).trans (if_pos rfl)))))))
  refine ⟨S1, T1, ?_, ?_, a3, a4⟩
  · rw [A_simple_e, if_neg (by decide), A_simple_j10_e, if_neg (by decide), A_simple_j28_e, if_neg (by decide), A_simple_j38_e, if_neg (by decide), A_simple_j117_e, if_neg (by decide), A_simple_j127_e, if_neg (by decide), A_simple_j137_e, if_neg (by decide), A_simple_j150_e, if_neg (by decide), if_pos (by decide), A_simple_j162_e, bnd_e a1', A_simple_j177_e, if_neg (by decide), A_simple_j187_e]
  · rw [hv]
    exact a2
theorem p_s12 {N : Nat} (hN : 100 ≤ N) {S : s_M} {T : Int → List Int} {k : skT} {E : Int → sen} {hd ns x : Int} (h : QX S T k) (hE : EX S T E ns) (hh : S 0 31 = hd ∧ -1 ≤ hd ∧ hd < ns) : ∃ S' T', A_simple N 12 x S = some (0, S') ∧ QX S' T' (wsk hd ns E 12 x k) ∧ exK S S' ∧ ∀ q, q < 70 → T' q = T q := by
  obtain ⟨S1, T1, a1, a2, a3, a4⟩ := p_empties (N := N) hN h
  have hv : wsk hd ns E 12 x k = sG (0, s_b (nth_ (vA k)), []) (sTA k) := (if_neg (by decide)).trans ((if_neg (by decide)).trans ((if_neg (by decide)).trans ((if_neg (by decide)).trans ((if_neg (by decide)).trans ((if_neg (by decide)).trans ((if_neg (by decide)).trans ((if_neg (by decide)).trans (if_pos rfl))))))))
  refine ⟨S1, T1, ?_, ?_, a3, a4⟩
  · rw [A_simple_e, if_neg (by decide), A_simple_j10_e, if_neg (by decide), A_simple_j28_e, if_neg (by decide), A_simple_j38_e, if_neg (by decide), A_simple_j117_e, if_neg (by decide), A_simple_j127_e, if_neg (by decide), A_simple_j137_e, if_neg (by decide), A_simple_j150_e, if_neg (by decide), if_neg (by decide), A_simple_j177_e, if_pos (by decide), bnd_e a1, A_simple_j187_e]
  · rw [hv]
    exact a2
theorem p_simk {N : Nat} (hN : 100 ≤ N) {S : s_M} {T : Int → List Int} {k : skT} {E : Int → sen} {hd ns op x : Int} (h : QX S T k) (hE : EX S T E ns) (hh : S 0 31 = hd ∧ -1 ≤ hd ∧ hd < ns) (ho : 0 ≤ op ∧ op ≤ 12) : ∃ S' T', A_simple N op x S = some (0, S') ∧ QX S' T' (wsk hd ns E op x k) ∧ exK S S' ∧ ∀ q, q < 70 → T' q = T q := by
  rcases (by omega : op = 0 ∨ op = 1 ∨ op = 2 ∨ op = 3 ∨ op = 4 ∨ op = 5 ∨ op = 6 ∨ op = 7 ∨ op = 8 ∨ op = 9 ∨ op = 10 ∨ op = 11 ∨ op = 12) with q0 | q1 | q2 | q3 | q4 | q5 | q6 | q7 | q8 | q9 | q10 | q11 | q12
  · subst q0
    exact p_s0 hN h hE hh
  · subst q1
    exact p_s1 hN h hE hh
  · subst q2
    exact p_s2 hN h hE hh
  · subst q3
    exact p_s3 hN h hE hh
  · subst q4
    exact p_s4 hN h hE hh
  · subst q5
    exact p_s5 hN h hE hh
  · subst q6
    exact p_s6 hN h hE hh
  · subst q7
    exact p_s7 hN h hE hh
  · subst q8
    exact p_s8 hN h hE hh
  · subst q9
    exact p_s9 hN h hE hh
  · subst q10
    exact p_s10 hN h hE hh
  · subst q11
    exact p_s11 hN h hE hh
  · subst q12
    exact p_s12 hN h hE hh
theorem p_simple {N : Nat} (hN : 1000 ≤ N) {S : s_M} {T : Int → List Int} {hd ns m : Int} {L : Int → Int} {s : rnT} (h : RX S T hd ns m L s) {op x : Int} (ho : 0 ≤ op ∧ op ≤ 12) : ∃ S' T', A_simple N op x S = some (0, S') ∧ RX S' T' hd ns m L (wkS hd ns op x s) ∧ exR S S' := by
  obtain ⟨S1, T1, a1, a2, a3, a4⟩ := p_simk (N := N) (by omega) (x := x) h.1 h.2.1 h.2.2.2.2.1 ho
  exact ⟨S1, T1, a1, h.stk a2 a3 a4, a3.exR⟩
