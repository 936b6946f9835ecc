def esim (E E' : Int → sen) : Prop := ∀ i : Int, (E' i).1 = (E i).1 ∧ (E' i).2.1 = (E i).2.1 ∧ (E' i).2.2.1 = (E i).2.2.1
theorem esim.refl (E : Int → sen) : esim E E := fun _ => ⟨rfl, rfl, rfl⟩
theorem esim.key {E E' : Int → sen} (h : esim E E') : kE E' = kE E := by
  funext i
  show (E' i).1.1 = (E i).1.1
  rw [(h i).1]
theorem enr.sim {S : s_M} {T : Int → List Int} {e : Int} {x x' : sen} (h : enr S T e x) (e1 : x'.1 = x.1) (e2 : x'.2.1 = x.2.1) (e3 : x'.2.2.1 = x.2.2.1) : enr S T e x' := by
  obtain ⟨y1, y2, y3, y4⟩ := x'
  obtain ⟨z1, z2, z3, z4⟩ := x
  have e1 : y1 = z1 := e1
  have e2 : y2 = z2 := e2
  have e3 : y3 = z3 := e3
  rw [e1, e2, e3]
  exact h
theorem EX.sim {S : s_M} {T : Int → List Int} {E E' : Int → sen} {ns : Int} (h : EX S T E ns) (e : esim E E') : EX S T E' ns := by
  obtain ⟨a1, a2, a3, a4⟩ := h
  exact ⟨a1, a2, fun i i0 i1 => (a3 i i0 i1).sim (e i).1 (e i).2.1 (e i).2.2, by rw [e.key]; exact a4⟩
/-- distinct values below n are at most n -/
theorem pig : ∀ (n m : Nat) (L : Int → Int), (∀ i : Int, 0 ≤ i → i < m → 0 ≤ L i ∧ L i < n) → dst_ L m → m ≤ n
  | 0, m, L, h, hd => by
    by_cases c : m = 0
    · omega
    · have := h 0 (by omega) (by omega)
      omega
  | n + 1, m, L, h, hd => by
    by_cases c : 0 ≤ fx L m (n : Int)
    · have hr := fx_rng (W := L) (n := (m : Int)) (w := (n : Int)) (by omega)
      have hk : 0 ≤ fx L m (n : Int) ∧ fx L m (n : Int) < m ∧ L (fx L m (n : Int)) = n := by
        rcases hr with q | q
        · omega
        · exact q
      generalize fx L m (n : Int) = k at hk
      obtain ⟨k0, k1, k2⟩ := hk
      have uq : ∀ i : Int, 0 ≤ i → i < m → i ≠ k → L i < n := fun i i0 i1 z => by
        have h1 := h i i0 i1
        by_cases e : L i = n
        · exact absurd (hd i k i0 i1 k0 k1 (e.trans k2.symm)) z
        · omega
      have hr : ∀ i : Int, rset L k (L ((m : Int) - 1)) i = if i = k then L ((m : Int) - 1) else L i := fun i => rfl
      have := pig n (m - 1) (rset L k (L ((m : Int) - 1))) (fun i i0 i1 => by
        rw [hr]
        by_cases z : i = k
        · rw [if_pos z]
          exact ⟨(h _ (by omega) (by omega)).1, uq _ (by omega) (by omega) (by omega)⟩
        · rw [if_neg z]
          exact ⟨(h i i0 (by omega)).1, uq i i0 (by omega) z⟩) (fun i j i0 i1 j0 j1 hij => by
        rw [hr, hr] at hij
        by_cases z : i = k
        · rw [if_pos z] at hij
          by_cases y : j = k
          · omega
          · rw [if_neg y] at hij
            have := hd _ j (by omega) (by omega) j0 (by omega) hij
            omega
        · rw [if_neg z] at hij
          by_cases y : j = k
          · rw [if_pos y] at hij
            have := hd i _ i0 (by omega) (by omega) (by omega) hij
            omega
          · rw [if_neg y] at hij
            exact hd i j i0 (by omega) j0 (by omega) hij)
      omega
    · have hn := fi_neg (W := L) (w := (n : Int)) ((m : Int) - 0).toNat 0 (by omega) c
      have := pig n m L (fun i i0 i1 => by
        have h1 := h i i0 i1
        have h2 := hn i i0 (by omega)
        omega) hd
      omega
theorem fx_yes {W : Int → Int} {n w i : Int} (hi : 0 ≤ i ∧ i < n) (h : W i = w) : 0 ≤ fx W n w := by
  by_cases c : 0 ≤ fx W n w
  · exact c
  · exact absurd h (fi_neg (W := W) (w := w) (n - 0).toNat 0 (by omega) c i hi.1 (by omega))
/-- the list as it grows -/
def lsI (S : s_M) (ns : Int) (E0 : Int → sen) (st : lst) : Prop := S 0 15 = st.1 ∧ 0 ≤ st.1 ∧ (∀ i : Int, 0 ≤ i → i < st.1 → S 11 i = st.2.1 i ∧ (0 ≤ st.2.1 i ∧ st.2.1 i < ns) ∧ (st.2.2.2 (st.2.1 i)).2.2.2 = []) ∧ dst_ st.2.1 st.1 ∧ WX S st.2.2.1 ∧ esim E0 st.2.2.2
theorem lsI.le {S : s_M} {ns : Int} {E0 : Int → sen} {st : lst} (h : lsI S ns E0 st) (hn : 0 ≤ ns) : st.1 ≤ ns := by
  obtain ⟨a1, a2, a3, a4, a5, a6⟩ := h
  have := pig ns.toNat st.1.toNat st.2.1 (fun i i0 i1 => by
    have := (a3 i i0 (by omega)).2.1
    omega) (by rw [show ((st.1.toNat : Nat) : Int) = st.1 by omega]; exact a4)
  omega
theorem lsI.add {S : s_M} {ns : Int} {E0 : Int → sen} {st : lst} (h : lsI S ns E0 st) (hn : 0 ≤ ns ∧ ns ≤ 8) {e : Int} (he : 0 ≤ e ∧ e < ns) (hne : ∀ i : Int, 0 ≤ i → i < st.1 → st.2.1 i ≠ e) : st.1 < 8 ∧ lal e st = (st.1 + 1, rset st.2.1 st.1 e, st.2.2.1, eset st.2.2.2 e (srt (st.2.2.2 e))) ∧ lsI (m_s (m_s S 11 st.1 e) 0 15 (st.1 + 1)) ns E0 (lal e st) := by
  obtain ⟨a1, a2, a3, a4, a5, a6⟩ := h
  have hd : dst_ (rset st.2.1 st.1 e) (st.1 + 1) := fun i j i0 i1 j0 j1 hij => by
    by_cases q1 : i = st.1
    · by_cases q2 : j = st.1
      · omega
      · rw [q1, rset_at, rset_ne q2] at hij
        exact absurd hij.symm (hne j j0 (by omega))
    · by_cases q2 : j = st.1
      · rw [q2, rset_at, rset_ne q1] at hij
        exact absurd hij (hne i i0 (by omega))
      · rw [rset_ne q1, rset_ne q2] at hij
        exact a4 i j i0 (by omega) j0 (by omega) hij
  have hp := pig ns.toNat (st.1 + 1).toNat (rset st.2.1 st.1 e) (fun i i0 i1 => by
    by_cases q : i = st.1
    · rw [q, rset_at]
      omega
    · rw [rset_ne q]
      have := (a3 i i0 (by omega)).2.1
      omega) (by rw [show (((st.1 + 1).toNat : Nat) : Int) = st.1 + 1 by omega]; exact hd)
  have h8 : st.1 < 8 := by omega
  have hl : lal e st = (st.1 + 1, rset st.2.1 st.1 e, st.2.2.1, eset st.2.2.2 e (srt (st.2.2.2 e))) := by
    unfold lal
    rw [if_pos h8, if_pos h8, if_pos h8]
  have hes : ∀ i, eset st.2.2.2 e (srt (st.2.2.2 e)) i = if i = e then srt (st.2.2.2 e) else st.2.2.2 i := fun i => rfl
  refine ⟨h8, hl, ?_⟩
  rw [hl]
  refine ⟨m_s_s, by show 0 ≤ st.1 + 1; omega, fun i i0 i1 => ?_, hd, a5.ex (fun j => by rw [m_sk (by decide), m_sk (by decide)]), fun i => ?_⟩
  · have i1 : i < st.1 + 1 := i1
    show _ = rset st.2.1 st.1 e i ∧ (0 ≤ rset st.2.1 st.1 e i ∧ rset st.2.1 st.1 e i < ns) ∧ (eset st.2.2.2 e (srt (st.2.2.2 e)) (rset st.2.1 st.1 e i)).2.2.2 = []
    rw [m_sk (by decide)]
    by_cases q : i = st.1
    · rw [q, m_s_s, rset_at, hes, if_pos rfl]
      exact ⟨rfl, he, rfl⟩
    · rw [m_sj q, rset_ne q, hes, if_neg (hne i i0 (by omega))]
      exact a3 i i0 (by omega)
  · show (eset st.2.2.2 e (srt (st.2.2.2 e)) i).1 = _ ∧ (eset st.2.2.2 e (srt (st.2.2.2 e)) i).2.1 = _ ∧ (eset st.2.2.2 e (srt (st.2.2.2 e)) i).2.2.1 = _
    rw [hes]
    split
    · rename_i q
      rw [q]
      exact a6 e
    · exact a6 i
def exL (S S' : s_M) : Prop := ∀ q j : Int, q ≠ 1 → q ≠ 11 → ¬ (q = 0 ∧ j = 15) → S' q j = S q j
theorem exL.refl (S : s_M) : exL S S := fun _ _ _ _ _ => rfl
theorem exL.trans {A B C : s_M} (h1 : exL A B) (h2 : exL B C) : exL A C := fun q j a b c => (h2 q j a b c).trans (h1 q j a b c)
def lsB (S : s_M) (T : Int → List Int) (E0 : Int → sen) (ns nc : Int) (WC : Int → Int) : Prop := TX S T ∧ EX S T E0 ns ∧ ctx S nc WC
theorem lsB.ex {S S' : s_M} {T : Int → List Int} {E0 : Int → sen} {ns nc : Int} {WC : Int → Int} (h : lsB S T E0 ns nc WC) (e : exL S S') : lsB S' T E0 ns nc WC := ⟨h.1.ex (fun q j z => e q j (by omega) (by omega) (by omega)), h.2.1.exg (fun q j z => e q j (by omega) (by omega) (by omega)) (fun q _ => rfl), h.2.2.ex (fun q j z => e q j (by omega) (by omega) (by omega))⟩
/-- of the citations below c: who is listed -/
def ctd (E0 : Int → sen) (WC : Int → Int) (ns c : Int) (st : lst) : Prop := (∀ i : Int, 0 ≤ i → i < st.1 → ∃ k : Int, (0 ≤ k ∧ k < c) ∧ kE E0 (st.2.1 i) = WC k) ∧ ∀ k e : Int, 0 ≤ k → k < c → 0 ≤ e → e < ns → kE E0 e = WC k → ∃ i : Int, (0 ≤ i ∧ i < st.1) ∧ st.2.1 i = e
theorem p_ls1 {N : Nat} (hN : 100 ≤ N) {T : Int → List Int} {E0 : Int → sen} {ns nc : Int} {WC : Int → Int} {mn : Int} : ∀ (mm n : Nat) (c : Int) (S : s_M) (st : lst), lsB S T E0 ns nc WC → lsI S ns E0 st → ctd E0 WC ns c st → 0 ≤ c → c + mm = nc → mm < n → ∃ S', A_list_l23 N n mn c S = A_list_l88 N N mn (S' 0 15) 0 S' ∧ lsI S' ns E0 (it (mla WC ns) mm c st) ∧ ctd E0 WC ns nc (it (mla WC ns) mm c st) ∧ exL S S'
  | mm, 0, c, S, st, hB, hI, hc, h0, h1, h2 => absurd h2 (Nat.not_lt_zero _)
  | 0, n + 1, c, S, st, hB, hI, hc, h0, h1, h2 => by
    have hx := hB.2.2.1
    refine ⟨S, by rw [A_list_l23_e, if_neg (by omega)], hI, ?_, exL.refl S⟩
    rw [show nc = c by omega]
    exact hc
  | mm + 1, n + 1, c, S, st, hB, hI, hc, h0, h1, h2 => by
    obtain ⟨x1, x2, x3, x4⟩ := hB.2.2
    have hns := hB.2.1.len
    have hdk := hB.2.1.2.2.2
    have hf := p_findKey (N := N) hN (w := WC c) hB.2.1
    have hk := hI.2.2.2.2.2.key
    have fr := fx_rng (W := kE E0) (n := ns) (w := WC c) hns.1
    have ez : mla WC ns c st = if 0 ≤ fx (kE E0) ns (WC c) then lal (fx (kE E0) ns (WC c)) st else (st.1, st.2.1, inc st.2.2.1 6, st.2.2.2) := by
      unfold mla
      rw [hk]
    by_cases q : 0 ≤ fx (kE E0) ns (WC c)
    · generalize he : fx (kE E0) ns (WC c) = e at hf fr ez q
      have hke : 0 ≤ e ∧ e < ns ∧ kE E0 e = WC c := by
        rcases fr with z | z
        · omega
        · exact z
      have hne : ∀ i : Int, 0 ≤ i → i < st.1 → st.2.1 i ≠ e := fun i i0 i1 z => by
        obtain ⟨k, k1, k2⟩ := hc.1 i i0 i1
        rw [z, hke.2.2] at k2
        have := x4 c k h0 (by omega) k1.1 (by omega) k2
        omega
      obtain ⟨l1, l2, l3⟩ := hI.add hns ⟨hke.1, hke.2.1⟩ hne
      rw [if_pos q] at ez
      have hx : exL S (m_s (m_s S 11 st.1 e) 0 15 (st.1 + 1)) := fun q j z y w => by rw [m_s_n w, m_sk y]
      have hc' : ctd E0 WC ns (c + 1) (lal e st) := by
        rw [l2]
        refine ⟨fun i i0 i1 => ?_, fun k e' k0 k1 e0 e1 hke' => ?_⟩
        · have i1 : i < st.1 + 1 := i1
          show ∃ k : Int, (0 ≤ k ∧ k < c + 1) ∧ kE E0 (rset st.2.1 st.1 e i) = WC k
          by_cases z : i = st.1
          · rw [z, rset_at]
            exact ⟨c, by omega, hke.2.2⟩
          · rw [rset_ne z]
            obtain ⟨k, k1, k2⟩ := hc.1 i i0 (by omega)
            exact ⟨k, by omega, k2⟩
        · show ∃ i : Int, (0 ≤ i ∧ i < st.1 + 1) ∧ rset st.2.1 st.1 e i = e'
          have hs0 := hI.2.1
          by_cases z : k = c
          · have : e' = e := hdk e' e e0 e1 hke.1 hke.2.1 (by rw [hke', hke.2.2, z])
            exact ⟨st.1, by omega, by rw [rset_at, this]⟩
          · obtain ⟨i, i1, i2⟩ := hc.2 k e' k0 (by omega) e0 e1 hke'
            exact ⟨i, by omega, by rw [rset_ne (by omega)]; exact i2⟩
      obtain ⟨S2, b1, b2, b3, b4⟩ := p_ls1 (mn := mn) hN mm n (c + 1) _ (lal e st) (hB.ex hx) l3 hc' (by omega) (by omega) (by omega)
      refine ⟨S2, ?_, ?_, ?_, hx.trans b4⟩
      · rw [A_list_l23_e, if_pos (by omega), chk_e (by omega), (x3 c h0 (by omega)).1, bnd_e hf, if_neg (by omega), hI.1, chk_e (by have := hI.2.1; omega), chk_e (by have := hI.2.1; omega), A_list_j75_e, chk_e (by omega)]
        exact b1
      · show lsI S2 ns E0 (it (mla WC ns) mm (c + 1) (mla WC ns c st))
        rw [ez]
        exact b2
      · show ctd E0 WC ns nc (it (mla WC ns) mm (c + 1) (mla WC ns c st))
        rw [ez]
        exact b3
    · rw [if_neg q] at ez
      have hno : ∀ e : Int, 0 ≤ e → e < ns → kE E0 e ≠ WC c := fun e e0 e1 z => q (fx_yes ⟨e0, e1⟩ z)
      have hx : exL S (m_s S 1 6 (wi32 (S 1 6 + 1))) := fun q j z y w => m_sk z
      obtain ⟨i1, i2, i3, i4, i5, i6⟩ := hI
      have hI' : lsI (m_s S 1 6 (wi32 (S 1 6 + 1))) ns E0 (st.1, st.2.1, inc st.2.2.1 6, st.2.2.2) := ⟨(m_sk (by decide)).trans i1, i2, fun i a b => by
        rw [m_sk (by decide)]
        exact i3 i a b, i4, i5.bump (by decide), i6⟩
      have hc' : ctd E0 WC ns (c + 1) (st.1, st.2.1, inc st.2.2.1 6, st.2.2.2) := ⟨fun i a b => by
        obtain ⟨k, k1, k2⟩ := hc.1 i a b
        exact ⟨k, by omega, k2⟩, fun k e k0 k1 e0 e1 hke => by
        by_cases z : k = c
        · rw [z] at hke
          exact absurd hke (hno e e0 e1)
        · exact hc.2 k e k0 (by omega) e0 e1 hke⟩
      obtain ⟨S2, b1, b2, b3, b4⟩ := p_ls1 (mn := mn) hN mm n (c + 1) _ _ (hB.ex hx) hI' hc' (by omega) (by omega) (by omega)
      refine ⟨S2, ?_, ?_, ?_, hx.trans b4⟩
      · rw [A_list_l23_e, if_pos (by omega), chk_e (by omega), (x3 c h0 (by omega)).1, bnd_e hf, if_pos (by omega), bnd_e (p_warn (by decide)), A_list_j75_e, chk_e (by omega)]
        exact b1
      · show lsI S2 ns E0 (it (mla WC ns) mm (c + 1) (mla WC ns c st))
        rw [ez]
        exact b2
      · show ctd E0 WC ns nc (it (mla WC ns) mm (c + 1) (mla WC ns c st))
        rw [ez]
        exact b3
theorem p_isl {N : Nat} {S : s_M} {L : Int → Int} {m e : Int} (h15 : S 0 15 = m) (hm : 0 ≤ m ∧ m ≤ 8) (h11 : ∀ i : Int, 0 ≤ i → i < m → S 11 i = L i) : ∀ (mm n : Nat) (i : Int) (b : Bool), 0 ≤ i → i + mm = m → mm < n → A_isListed_l4 N n e (s_b b) i S = some (s_b (b || decide (0 ≤ fi L e mm i)), S)
  | mm, 0, i, b, h0, h1, h2 => absurd h2 (Nat.not_lt_zero _)
  | 0, n + 1, i, b, h0, h1, h2 => by
    rw [A_isListed_l4_e, if_neg (by omega), chk_e (by cases b <;> decide), show decide (0 ≤ fi L e 0 i) = false from rfl, Bool.or_false]
  | mm + 1, n + 1, i, b, h0, h1, h2 => by
    have ef : fi L e (mm + 1) i = if L i = e then i else fi L e mm (i + 1) := rfl
    rw [A_isListed_l4_e, if_pos (by omega), chk_e (by omega), h11 i h0 (by omega), A_isListed_j26_e, A_isListed_j31_e, A_isListed_j31_e, chk_e (by omega), chk_e (by omega), ef]
    have i1 := p_isl (N := N) (e := e) h15 hm h11 mm n (i + 1) true (by omega) (by omega) (by omega)
    have i0 := p_isl (N := N) (e := e) h15 hm h11 mm n (i + 1) false (by omega) (by omega) (by omega)
    cases b with
    | true =>
      rw [if_neg (by decide)]
      exact i1
    | false =>
      rw [if_pos (by decide)]
      by_cases q : L i = e
      · rw [if_pos q, if_pos q, decide_eq_true h0]
        exact i1
      · rw [if_neg q, if_neg q]
        exact i0
