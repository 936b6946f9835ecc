theorem p_once {N : Nat} (hN : 100000 ≤ N) {hd ns m : Int} {L : Int → Int} {K : s_M} {O Q Z : Int → Int} {S : s_M} {T : Int → List Int} {s : rnT} (h : RR S T hd ns m L K O Q Z s) {f : Int} (hf : 0 ≤ f ∧ f < 6) : ∃ S' T', A_once N f S = some (0, S') ∧ RX S' T' hd ns m L (rf hd ns O Q Z 8 f s).2 ∧ S' 0 30 = (rf hd ns O Q Z 8 f s).2.2.2.2.1 ∧ S' 0 32 = s_b (!(rf hd ns O Q Z 8 f s).1) ∧ fnk S' K O Q Z := by
  have hmu := h.mu0
  have hR0 := h.deep (x := 0)
  obtain ⟨f1, f2, f3, f4⟩ := psh_frm (S := m_s S 0 29 0) (wy := 0) (x := 0) (lv := 0) (by omega) hf
  have hR := hR0.pshd (lv := 0) (g := f) (wy := 0) (x := 0) (by omega) hf
  have r := (PF_all (N := N) (by omega) (hd := hd) (ns := ns) (m := m) (L := L) (K := K) (O := O) (Q := Q) (Z := Z) 7 (by omega)).fn (lv := 0 + 1) (by decide) hR f1
  have hpu := p_push (N := N) (S := m_s S 0 29 0) (lv := 0) (g := f) (wy := 0) (x := 0) m_s_s (by omega)
  by_cases hb : (rf hd ns O Q Z 8 f s).1 = true
  · obtain ⟨k, S2, T2, r1, r2, ⟨r3, r4⟩, r5⟩ := r.yes hb
    have r3' := r3
    obtain ⟨e29, e8, e18, e19, e20, e21, e6⟩ := r3
    have he := p_ended (N := N) (lv := 0) e29 (by omega) e20 e21
    have he2 : A_ended N S2 = some (0, m_s S2 0 29 0) := by
      rw [he, if_neg (by decide), A_ended_j55_e, m_s_s, chk_e (by omega), m_sk (by decide), show S2 20 0 = 0 from e20, if_neg (by decide), A_ended_j84_e]
    have hh := headE r2.2.2.2.1 r2.2.2.1 r3' (by omega) he2
    have hall := r1.trans hh
    have hd2 := r2.deep (x := 0)
    have hm2 := r2.mu0
    refine ⟨m_s S2 0 29 0, T2, ?_, hd2.1, hd2.2.1, ?_, hd2.2.2.2.1⟩
    · rw [A_once_e, bnd_e hpu, show N = (N - (1 + k) - 1 + 1) + (1 + k) by omega]
      have := hall (N - (1 + k) - 1 + 1)
      rw [← show N = (N - (1 + k) - 1 + 1) + (1 + k) by omega] at this ⊢
      rw [this, A_once_l12_e, if_neg (by rw [m_s_s]; decide), A_once_j70_e]
    · rw [hd2.2.2.1, hb]
      rfl
  · obtain ⟨k, S2, T2, r1, r2, r3, r4, r5, r6⟩ := r.no hb
    refine ⟨S2, T2, ?_, r2, r3, ?_, r5⟩
    · have := r1 (N - k)
      rw [show N - k + k = N by omega] at this
      rw [A_once_e, bnd_e hpu, this]
    · rw [r4, Bool.eq_false_iff.mpr hb]
      rfl
theorem RX.hand {S : s_M} {T : Int → List Int} {hd ns m : Int} {L : Int → Int} {s : rnT} (h : RX S T hd ns m L s) {x : Int} (hx : -1 ≤ x ∧ x < ns) : RX (m_s S 0 31 x) T x ns m L s := by
  obtain ⟨a1, a2, a3, a4, a5, a6⟩ := h
  obtain ⟨b1, b2, b3, b4, b5⟩ := a1
  have e : ∀ q j : Int, ¬ (q = 0 ∧ j = 31) → m_s S 0 31 x q j = S q j := fun q j z => m_s_n z
  refine ⟨⟨b1.ex (fun q j z => e q j (by omega)), b2.ex (fun j => e 1 j (by omega)), (e 0 26 (by omega)).trans b3, b4, fun i i0 i1 => (b5 i i0 i1).ex (e 16 i (by omega)) (e 17 i (by omega)) rfl⟩, a2.exg (fun q j z => e q j (by omega)) (fun q _ => rfl), fun g g0 g1 => ?_, a4.ex (fun q j z => e q j (by omega)), ⟨m_s_s, hx⟩, a6⟩
  rw [e 15 g (by omega)]
  exact a3 g g0 g1
theorem RR.hand {hd ns m : Int} {L : Int → Int} {K : s_M} {O Q Z : Int → Int} {S : s_M} {T : Int → List Int} {s : rnT} (h : RR S T hd ns m L K O Q Z s) {x : Int} (hx : -1 ≤ x ∧ x < ns) : RR (m_s S 0 31 x) T x ns m L K O Q Z s := by
  obtain ⟨b1, b2, b3, b4, b5⟩ := h
  exact ⟨b1.hand hx, by rw [m_sj (by decide)]; exact b2, by rw [m_sj (by decide)]; exact b3, b4.ex (fun q j z => m_s_n (by omega)), b5⟩
/-- what a run leaves -/
def rnE (S : s_M) (T : Int → List Int) (ns m : Int) (L : Int → Int) (K : s_M) (O Q Z : Int → Int) (r : Bool × rnT) : Prop := (∃ hd, RX S T hd ns m L r.2) ∧ S 0 30 = r.2.2.2.2.1 ∧ S 0 32 = s_b (!r.1) ∧ fnk S K O Q Z
theorem p_runl {N : Nat} (hN : 100000 ≤ N) {ns m : Int} {L : Int → Int} {K : s_M} {O Q Z : Int → Int} {f y : Int} (hf : 0 ≤ f ∧ f < 6) (hy : y = 1 ∨ y = 2) (hm8 : 0 ≤ m ∧ m ≤ 8) (h15 : K 0 15 = m) (h11 : ∀ i : Int, 0 ≤ i → i < m → K 11 i = L i) : ∀ (mm n : Nat) (i : Int) (hd : Int) (S : s_M) (T : Int → List Int) (s : rnT), RR S T hd ns m L K O Q Z s → 0 ≤ i → i + mm = m → mm < n → ∃ S' T', A_run_l55 N n f y i S = A_run_j111 N S' ∧ rnE S' T' ns m L K O Q Z (slp ns O Q Z f (hnd L y m) mm i s)
  | mm, 0, i, hd, S, T, s, h, h0, h1, h2 => absurd h2 (Nat.not_lt_zero _)
  | 0, n + 1, i, hd, S, T, s, h, h0, h1, h2 => by
    have k15 := (h.2.2.2.1.1 0 15 (by omega)).trans h15
    refine ⟨S, T, ?_, ⟨hd, h.1⟩, h.2.1, h.2.2.1, h.2.2.2.1⟩
    rw [A_run_l55_e, if_pos (by omega), if_neg (by omega)]
  | mm + 1, n + 1, i, hd, S, T, s, h, h0, h1, h2 => by
    have k15 := (h.2.2.2.1.1 0 15 (by omega)).trans h15
    have k32 := h.2.2.1
    have hy0 : 0 ≤ (if y = 1 then i else m - 1 - i) ∧ (if y = 1 then i else m - 1 - i) < m := by split <;> omega
    have k11 := (h.2.2.2.1.1 11 (if y = 1 then i else m - 1 - i) (by omega)).trans (h11 _ hy0.1 hy0.2)
    have hL := (h.1.2.2.2.2.2 _ hy0.1 hy0.2).1
    have hH : hnd L y m i = L (if y = 1 then i else m - 1 - i) := rfl
    have hR := h.hand (x := hnd L y m i) (by rw [hH]; omega)
    obtain ⟨S1, T1, a1, a2, a3, a4, a5⟩ := p_once (N := N) hN hR hf
    have hg := rf_g (hd := hnd L y m i) (ns := ns) (O := O) (Q := Q) (Z := Z) 8 f s h.2.2.2.2
    have st : A_run_l55 N (n + 1) f y i S = A_run_l55 N n f y (i + 1) S1 := by
      have hj : A_run_j96 N (A_run_l55 N n) f y i (if y = 1 then i else m - 1 - i) S = A_run_l55 N n f y (i + 1) S1 := by
        rw [A_run_j96_e, chk_e (by omega), k11, ← hH, bnd_e a1, chk_e (by omega)]
      rw [A_run_l55_e, if_pos (by omega), if_pos (by omega), if_pos k32, ← hj, k15]
      by_cases c : y = 1
      · rw [if_pos c, if_pos c]
      · rw [if_neg c, if_neg c, chk_e (by omega), chk_e (by omega)]
    rw [st, slp_s]
    by_cases hb : (rf (hnd L y m i) ns O Q Z 8 f s).1 = true
    · rw [if_pos hb]
      have hR1 : RR S1 T1 (hnd L y m i) ns m L K O Q Z (rf (hnd L y m i) ns O Q Z 8 f s).2 := ⟨a2, a3, by rw [a4, hb]; rfl, a5, hg.2⟩
      exact p_runl hN hf hy hm8 h15 h11 mm n (i + 1) _ S1 T1 _ hR1 (by omega) (by omega) (by omega)
    · rw [if_neg hb]
      have hbf : (rf (hnd L y m i) ns O Q Z 8 f s).1 = false := Bool.eq_false_iff.mpr hb
      refine ⟨S1, T1, ?_, ⟨hnd L y m i, a2⟩, a3, by rw [a4, hbf], a5⟩
      rw [hbf] at a4
      have k15' := (a5.1 0 15 (by omega)).trans h15
      have a4' : S1 0 32 = 1 := a4
      cases n with
      | zero => exact absurd h2 (by omega)
      | succ n' =>
        rw [A_run_l55_e, if_pos (by omega)]
        split
        · rw [if_neg (by omega)]
        · rfl
/-- the coupling between calls: no entry at hand -/
def exC (S S' : s_M) : Prop := ∀ q j : Int, q = 1 ∨ (3 ≤ q ∧ q ≤ 8) ∨ (15 ≤ q ∧ q ≤ 17) ∨ (26 ≤ q ∧ q ≤ 28) ∨ (q = 0 ∧ (j = 6 ∨ j = 26 ∨ j = 44 ∨ j = 45)) → S' q j = S q j
def CX (S : s_M) (T : Int → List Int) (ns m : Int) (L : Int → Int) (s : rnT) : Prop := QX S T s.1 ∧ EX S T s.2.1.2 ns ∧ gbl S s.2.1.1 ∧ PX S s.2.2.1 ∧ srk T s.2.1.2 ns m L
theorem RX.cx {S : s_M} {T : Int → List Int} {hd ns m : Int} {L : Int → Int} {s : rnT} (h : RX S T hd ns m L s) : CX S T ns m L s := ⟨h.1, h.2.1, h.2.2.1, h.2.2.2.1, h.2.2.2.2.2⟩
theorem CX.ex {S S' : s_M} {T : Int → List Int} {ns m : Int} {L : Int → Int} {s : rnT} (h : CX S T ns m L s) (e : exC S S') : CX S' T ns m L s := by
  obtain ⟨a1, a2, a3, a4, a6⟩ := h
  obtain ⟨b1, b2, b3, b4, b5⟩ := a1
  refine ⟨⟨b1.ex (fun q j z => e q j (by omega)), b2.ex (fun j => e 1 j (by omega)), (e 0 26 (by omega)).trans b3, b4, fun i i0 i1 => (b5 i i0 i1).ex (e 16 i (by omega)) (e 17 i (by omega)) rfl⟩, a2.exg (fun q j z => e q j (by omega)) (fun q _ => rfl), fun g g0 g1 => ?_, a4.ex (fun q j z => e q j (by omega)), a6⟩
  rw [e 15 g (by omega)]
  exact a3 g g0 g1
theorem CX.hand {S : s_M} {T : Int → List Int} {ns m : Int} {L : Int → Int} {s : rnT} (h : CX S T ns m L s) {x : Int} (hx : -1 ≤ x ∧ x < ns) : RX (m_s S 0 31 x) T x ns m L s := by
  obtain ⟨a1, a2, a3, a4, a6⟩ := h.ex (S' := m_s S 0 31 x) (fun q j z => m_s_n (by omega))
  exact ⟨a1, a2, a3, a4, ⟨m_s_s, hx⟩, a6⟩
theorem p_run {N : Nat} (hN : 100000 ≤ N) {ns m : Int} {L O Q Z : Int → Int} {S : s_M} {T : Int → List Int} {s : rnT} (h : CX S T ns m L s) (hk : fnk S S O Q Z) (hr : rok (zdn s)) {f y : Int} (hf : 0 ≤ f ∧ f < 6) (hy : 0 ≤ y ∧ y ≤ 2) (hm8 : 0 ≤ m ∧ m ≤ 8) (h15 : S 0 15 = m) (h11 : ∀ i : Int, 0 ≤ i → i < m → S 11 i = L i) : ∃ S' T', A_run N f y S = some (if (srn ns O Q Z L m f y s).1 = true then (srn ns O Q Z L m f y s).2.2.2.2.1 else 0, if (srn ns O Q Z L m f y s).1 = true then S' else m_s S' 0 0 2) ∧ rnE S' T' ns m L (m_s S 0 0 0) O Q Z (srn ns O Q Z L m f y s) := by
  have hl := h.2.1.len
  have e1 : RX (m_s (m_s (m_s (m_s S 0 0 0) 0 30 0) 0 32 0) 0 31 (-1)) T (-1) ns m L (zdn s) := by
    have g0 : exC S (m_s (m_s (m_s S 0 0 0) 0 30 0) 0 32 0) := fun q j z => by
      rw [m_s_n (by omega), m_s_n (by omega), m_s_n (by omega)]
    exact CX.hand (s := zdn s) (h.ex g0) (by omega)
  have hR : RR (m_s (m_s (m_s (m_s S 0 0 0) 0 30 0) 0 32 0) 0 31 (-1)) T (-1) ns m L (m_s S 0 0 0) O Q Z (zdn s) := by
    refine ⟨e1, ?_, ?_, ⟨fun q j z => ?_, (hk.ex (fun q j z => rfl)).2⟩, hr⟩
    · rw [m_sj (by decide), m_sj (by decide), m_s_s]
      rfl
    · rw [m_sj (by decide), m_s_s]
    · rw [m_s_n (by omega), m_s_n (by omega), m_s_n (by omega)]
  have k15 : (m_s S 0 0 0) 0 15 = m := by rw [m_sj (by decide)]; exact h15
  have k11 : ∀ i : Int, 0 ≤ i → i < m → (m_s S 0 0 0) 11 i = L i := fun i i0 i1 => by rw [m_sk (by decide)]; exact h11 i i0 i1
  have fin : ∀ (S1 : s_M) (T1 : Int → List Int) (r : Bool × rnT), rnE S1 T1 ns m L (m_s S 0 0 0) O Q Z r → A_run_j111 N S1 = some (if r.1 = true then r.2.2.2.2.1 else 0, if r.1 = true then S1 else m_s S1 0 0 2) := fun S1 T1 r hE => by
    obtain ⟨-, b1, b2, -⟩ := hE
    by_cases c : r.1 = true
    · rw [if_pos c, if_pos c, A_run_j111_e, if_pos (by rw [b2, c]; rfl), A_run_j130_e, b1]
    · rw [if_neg c, if_neg c, A_run_j111_e, if_neg (by rw [b2, Bool.eq_false_iff.mpr c]; decide)]
      rw [bnd_e (A_fail_e N 2 S1), A_run_j130_e]
  by_cases c : y = 0
  · have hs : srn ns O Q Z L m f y s = rf (-1) ns O Q Z 8 f (zdn s) := if_pos c
    rw [hs]
    obtain ⟨S1, T1, a1, a2, a3, a4, a5⟩ := p_once (N := N) hN hR hf
    have hE : rnE S1 T1 ns m L (m_s S 0 0 0) O Q Z (rf (-1) ns O Q Z 8 f (zdn s)) := ⟨⟨-1, a2⟩, a3, a4, a5⟩
    refine ⟨S1, T1, ?_, hE⟩
    rw [← fin S1 T1 _ hE, A_run_e, if_pos (decide_eq_true (by omega)), if_pos (decide_eq_true (by omega)), if_pos c, bnd_e a1, A_run_j53_e, show N = (N - 1) + 1 by omega, A_run_l55_e, if_neg (by omega)]
  · have hs : srn ns O Q Z L m f y s = slp ns O Q Z f (hnd L y m) (m - 0).toNat 0 (zdn s) := if_neg c
    rw [hs]
    obtain ⟨S1, T1, a1, a2⟩ := p_runl (N := N) hN (f := f) (y := y) hf (by omega) hm8 k15 k11 (m - 0).toNat N 0 _ _ T _ hR (by omega) (by omega) (by omega)
    refine ⟨S1, T1, ?_, a2⟩
    rw [← fin S1 T1 _ a2, A_run_e, if_pos (decide_eq_true (by omega)), if_pos (decide_eq_true (by omega)), if_neg c, A_run_j53_e, a1]
