/-! The reference's stack and warnings, coupled with the class's. -/
theorem wi32_inc (a : Int) : wi32 (wi32 a + 1) = wi32 (a + 1) := by
  unfold wi32
  rw [Int32.ofInt_add, Int32.ofInt_toInt, ← Int32.ofInt_add]
theorem wi32_id {a : Int} (h : rI a) : wi32 a = a := by
  unfold wi32
  exact Int32.toInt_ofInt_of_le (by omega) (by omega)
def prt (t : List Int) : Prop := ∀ i : Int, 0 ≤ i → i < (t.length : Int) → 32 ≤ tg t i ∧ tg t i ≤ 126
theorem prt_nil : prt [] := fun i i0 i1 => absurd i1 (by show ¬ i < ((0 : Nat) : Int); omega)
def svk (x : sva) : Prop := (x.1 = 0 ∧ x.2.2 = [] ∧ rI x.2.1) ∨ (x.1 = 1 ∧ x.2.1 = 0 ∧ prt x.2.2 ∧ x.2.2.length ≤ 60) ∨ (x.1 = 2 ∧ x.2.1 = 0 ∧ x.2.2 = [])
def svr (S : s_M) (T : Int → List Int) (i : Int) (x : sva) : Prop := svk x ∧ S 16 i = x.1 ∧ (x.1 = 0 → S 17 i = x.2.1) ∧ (x.1 = 1 → T (70 + i) = x.2.2)
def WX (S : s_M) (WN : Int → Int) : Prop := ∀ i : Int, 0 ≤ i → i < 10 → S 1 i = wi32 (WN i)
def KX (S : s_M) (T : Int → List Int) (k : skT) : Prop := WX S k.1 ∧ S 0 26 = k.2.1 ∧ (0 ≤ k.2.1 ∧ k.2.1 ≤ 12) ∧ ∀ i : Int, 0 ≤ i → i < k.2.1 → svr S T i (k.2.2 i)
def QX (S : s_M) (T : Int → List Int) (k : skT) : Prop := TX S T ∧ KX S T k
/-- all is the same but warnings, texts, stack, depth, what is held -/
def exK (S S' : s_M) : Prop := ∀ q j : Int, q ≠ 1 → q ≠ 3 → q ≠ 4 → q ≠ 16 → q ≠ 17 → ¬ (q = 0 ∧ (j = 26 ∨ j = 49)) → S' q j = S q j
theorem exK.refl (S : s_M) : exK S S := fun _ _ _ _ _ _ _ _ => rfl
theorem exK.trans {A B C : s_M} (h1 : exK A B) (h2 : exK B C) : exK A C := fun k j a b c d e f => (h2 k j a b c d e f).trans (h1 k j a b c d e f)
theorem exT.exK {S S' : s_M} (h : exT S S') : exK S S' := fun q j _ q3 q4 _ _ _ => h q j q3 q4
theorem exK.put {S : s_M} {q j x : Int} (h : q = 1 ∨ q = 3 ∨ q = 4 ∨ q = 16 ∨ q = 17 ∨ (q = 0 ∧ (j = 26 ∨ j = 49))) : exK S (m_s S q j x) := fun q' j' a b c d e f => m_s_n (fun z => by
  obtain ⟨z1, z2⟩ := z
  subst z1
  subst z2
  rcases h with h | h | h | h | h | h
  · exact a h
  · exact b h
  · exact c h
  · exact d h
  · exact e h
  · exact f h)
theorem svr.ex {S S' : s_M} {T T' : Int → List Int} {i : Int} {x : sva} (h : svr S T i x) (e1 : S' 16 i = S 16 i) (e2 : S' 17 i = S 17 i) (e3 : T' (70 + i) = T (70 + i)) : svr S' T' i x := by
  obtain ⟨a, b, c, d⟩ := h
  exact ⟨a, e1.trans b, fun z => e2.trans (c z), fun z => e3.trans (d z)⟩
theorem WX.ex {S S' : s_M} {WN : Int → Int} (h : WX S WN) (e : ∀ j, S' 1 j = S 1 j) : WX S' WN := fun i i0 i1 => (e i).trans (h i i0 i1)
theorem WX.bump {S : s_M} {WN : Int → Int} (h : WX S WN) {i : Int} (hi : 0 ≤ i ∧ i < 10) : WX (m_s S 1 i (wi32 (S 1 i + 1))) (inc WN i) := by
  intro j j0 j1
  by_cases e : j = i
  · rw [e, m_s_s, h i hi.1 hi.2, wi32_inc]
    congr 1
    exact (if_pos rfl : inc WN i i = WN i + 1).symm
  · rw [m_sj e, h j j0 j1]
    congr 1
    exact (if_neg e : inc WN i j = WN j).symm
theorem p_warn {N : Nat} {S : s_M} {i : Int} (hi : 0 ≤ i ∧ i < 10) : A_warn N i S = some (0, m_s S 1 i (wi32 (S 1 i + 1))) := by
  rw [A_warn_e, chk_e hi, chk_e hi]
theorem QX.warn {S : s_M} {T : Int → List Int} {k : skT} (h : QX S T k) {i : Int} (hi : 0 ≤ i ∧ i < 10) : QX (m_s S 1 i (wi32 (S 1 i + 1))) T (inc k.1 i, k.2) := by
  obtain ⟨h1, h2, h3, h4, h5⟩ := h
  refine ⟨h1.ex (fun q j hq => m_sk (by omega)), h2.bump hi, (m_sk (by decide)).trans h3, h4, fun j j0 j1 => (h5 j j0 j1).ex (m_sk (by decide)) (m_sk (by decide)) rfl⟩
theorem p_room {N : Nat} {S : s_M} {T : Int → List Int} {k : skT} (h : QX S T k) : ∃ S', A_room N S = some (if k.2.1 < 12 then 1 else 0, S') ∧ QX S' T (gW k.2.1 k.1, k.2) ∧ exK S S' ∧ (k.2.1 < 12 → S' = S) := by
  have hn := h.2.2.2.1
  have hd := h.2.2.1
  by_cases e : k.2.1 = 12
  · refine ⟨m_s S 1 8 (wi32 (S 1 8 + 1)), ?_, ?_, exK.put (Or.inl rfl), fun z => absurd z (by omega)⟩
    · rw [A_room_e, if_pos (by omega), bnd_e (p_warn (by decide)), A_room_j15_e, m_sk (by decide), hd]
    · rw [show gW k.2.1 k.1 = inc k.1 8 from if_neg (by omega)]
      exact h.warn (by decide)
  · refine ⟨S, ?_, ?_, exK.refl S, fun _ => rfl⟩
    · rw [A_room_e, if_neg (by omega), A_room_j15_e, hd]
    · rw [show gW k.2.1 k.1 = k.1 from if_pos (by omega)]
      exact h
theorem sG_full {k : skT} {x : sva} (h : ¬ k.2.1 < 12) : sG x k = (gW k.2.1 k.1, k.2) := by
  unfold sG
  rw [show gn k.2.1 = k.2.1 from if_neg h, show gf k.2.1 k.2.2 x = k.2.2 from if_neg h]
theorem sG_room {k : skT} {x : sva} (h : k.2.1 < 12) : sG x k = (k.1, k.2.1 + 1, fset k.2.2 k.2.1 x) := by
  unfold sG
  rw [show gn k.2.1 = k.2.1 + 1 from if_pos h, show gf k.2.1 k.2.2 x = fset k.2.2 k.2.1 x from if_pos h, show gW k.2.1 k.1 = k.1 from if_pos h]
theorem QX.push {S S' : s_M} {T T' : Int → List Int} {k : skT} {x : sva} (h : QX S T k) (hk : k.2.1 < 12) (ht : TX S' T') (e1 : ∀ j, S' 1 j = S 1 j) (ed : S' 0 26 = k.2.1 + 1) (e16 : ∀ j, j ≠ k.2.1 → S' 16 j = S 16 j) (e17 : ∀ j, j ≠ k.2.1 → S' 17 j = S 17 j) (eT : ∀ j, 0 ≤ j → j < k.2.1 → T' (70 + j) = T (70 + j)) (hx : svr S' T' k.2.1 x) : QX S' T' (sG x k) := by
  obtain ⟨h1, h2, h3, h4, h5⟩ := h
  rw [sG_room hk]
  refine ⟨ht, h2.ex e1, ed, by show 0 ≤ k.2.1 + 1 ∧ k.2.1 + 1 ≤ 12; omega, fun j j0 j1 => ?_⟩
  have j2 : j < k.2.1 + 1 := j1
  show svr S' T' j (fset k.2.2 k.2.1 x j)
  by_cases e : j = k.2.1
  · rw [e, show fset k.2.2 k.2.1 x k.2.1 = x from if_pos rfl]
    exact hx
  · rw [show fset k.2.2 k.2.1 x j = k.2.2 j from if_neg e]
    exact (h5 j j0 (by omega)).ex (e16 j e) (e17 j e) (eT j j0 (by omega))
theorem p_giveNumber {N : Nat} {S : s_M} {T : Int → List Int} {k : skT} (h : QX S T k) {q : Int} (hq : rI q) : ∃ S', A_giveNumber N q S = some (0, S') ∧ QX S' T (sG (0, q, []) k) ∧ exK S S' := by
  have hn := h.2.2.2.1
  have hd := h.2.2.1
  obtain ⟨S1, r1, r2, r3, r4⟩ := p_room (N := N) h
  by_cases e : k.2.1 < 12
  · have eS := r4 e
    subst eS
    refine ⟨m_s (m_s (m_s S1 16 (S1 0 26) 0) 17 (S1 0 26) q) 0 26 (S1 0 26 + 1), ?_, ?_, ((exK.put (by omega)).trans (exK.put (by omega))).trans (exK.put (by omega))⟩
    · rw [A_giveNumber_e, bnd_e r1, if_pos e, if_neg (by decide), chk_e (by omega), chk_e (by omega), chk_e (by omega)]
    · refine h.push e (h.1.ex (fun z j hz => by rw [m_sk (by omega), m_sk (by omega), m_sk (by omega)])) (fun j => by rw [m_sk (by decide), m_sk (by decide), m_sk (by decide)]) (by rw [m_s_s, hd]) (fun j hj => by rw [m_sk (by decide), m_sk (by decide), m_sj (by omega)]) (fun j hj => by rw [m_sk (by decide), m_sj (by omega), m_sk (by decide)]) (fun j _ _ => rfl) ⟨Or.inl ⟨rfl, rfl, hq⟩, ?_, fun _ => ?_, fun z => absurd z (by decide : ¬ (0 : Int) = 1)⟩
      · rw [m_sk (by decide), m_sk (by decide), hd, m_s_s]
      · rw [m_sk (by decide), hd, m_s_s]
  · refine ⟨S1, ?_, ?_, r3⟩
    · rw [A_giveNumber_e, bnd_e r1, if_neg e, if_pos rfl]
    · rw [sG_full e]
      exact r2
theorem p_giveMissing {N : Nat} {S : s_M} {T : Int → List Int} {k : skT} (h : QX S T k) : ∃ S', A_giveMissing N S = some (0, S') ∧ QX S' T (sG (2, 0, []) k) ∧ exK S S' := by
  have hn := h.2.2.2.1
  have hd := h.2.2.1
  obtain ⟨S1, r1, r2, r3, r4⟩ := p_room (N := N) h
  by_cases e : k.2.1 < 12
  · have eS := r4 e
    subst eS
    refine ⟨m_s (m_s S1 16 (S1 0 26) 2) 0 26 (S1 0 26 + 1), ?_, ?_, (exK.put (by omega)).trans (exK.put (by omega))⟩
    · rw [A_giveMissing_e, bnd_e r1, if_pos e, if_neg (by decide), chk_e (by omega), chk_e (by omega)]
    · refine h.push e (h.1.ex (fun z j hz => by rw [m_sk (by omega), m_sk (by omega)])) (fun j => by rw [m_sk (by decide), m_sk (by decide)]) (by rw [m_s_s, hd]) (fun j hj => by rw [m_sk (by decide), m_sj (by omega)]) (fun j hj => by rw [m_sk (by decide), m_sk (by decide)]) (fun j _ _ => rfl) ⟨Or.inr (Or.inr ⟨rfl, rfl, rfl⟩), ?_, fun z => absurd z (by decide : ¬ (2 : Int) = 0), fun z => absurd z (by decide : ¬ (2 : Int) = 1)⟩
      rw [m_sk (by decide), hd, m_s_s]
  · refine ⟨S1, ?_, ?_, r3⟩
    · rw [A_giveMissing_e, bnd_e r1, if_neg e, if_pos rfl]
    · rw [sG_full e]
      exact r2
theorem p_giveText {N : Nat} (hN : 100 ≤ N) {S : s_M} {T : Int → List Int} {k : skT} (h : QX S T k) {t : Int} (ht : 0 ≤ t ∧ t < 85) (hp : prt (T t)) : ∃ S' T', A_giveText N t S = some (0, S') ∧ QX S' T' (sG (1, 0, T t) k) ∧ exK S S' ∧ ∀ q, (q < 70 ∨ 82 ≤ q) → T' q = T q := by
  have hn := h.2.2.2.1
  have hd := h.2.2.1
  obtain ⟨S1, r1, r2, r3, r4⟩ := p_room (N := N) h
  by_cases e : k.2.1 < 12
  · have eS := r4 e
    subst eS
    have hx : TX (m_s S1 16 (S1 0 26) 1) T := h.1.ex (fun z j hz => m_sk (by omega))
    obtain ⟨S2, c1, c2, c3⟩ := p_copy (N := N) hN hx (a := t) (b := 70 + S1 0 26) ht (by omega)
    refine ⟨m_s S2 0 26 (S2 0 26 + 1), lset T (70 + S1 0 26) (T t), ?_, ?_, ((exK.put (by omega)).trans c3.exK).trans (exK.put (by omega)), fun q hq => lset_ne (by omega)⟩
    · have e26 : S2 0 26 = S1 0 26 := (c3 0 26 (by decide) (by decide)).trans (m_sk (by decide))
      rw [A_giveText_e, bnd_e r1, if_pos e, if_neg (by decide), chk_e (by omega), chk_e (by omega), bnd_e c1, chk_e (by rw [e26]; omega)]
    · have e26 : S2 0 26 = S1 0 26 := (c3 0 26 (by decide) (by decide)).trans (m_sk (by decide))
      refine h.push e (c2.ex (fun z j hz => m_sk (by omega))) (fun j => by rw [m_sk (by decide), c3 1 j (by decide) (by decide), m_sk (by decide)]) (by rw [m_s_s, e26, hd]) (fun j hj => by rw [m_sk (by decide), c3 16 j (by decide) (by decide), m_sj (by omega)]) (fun j hj => by rw [m_sk (by decide), c3 17 j (by decide) (by decide), m_sk (by decide)]) (fun j _ _ => lset_ne (by omega)) ⟨Or.inr (Or.inl ⟨rfl, rfl, hp, (h.1.len ht).2⟩), ?_, fun z => absurd z (by decide : ¬ (1 : Int) = 0), fun _ => ?_⟩
      · rw [m_sk (by decide), c3 16 k.2.1 (by decide) (by decide), hd, m_s_s]
      · rw [hd]
        exact lset_at
  · refine ⟨S1, T, ?_, ?_, r3, fun q _ => rfl⟩
    · rw [A_giveText_e, bnd_e r1, if_neg e, if_pos rfl]
    · rw [sG_full e]
      exact r2
theorem QX.pop {S S' : s_M} {T T' : Int → List Int} {k : skT} {W' : Int → Int} (h : QX S T k) (hk : ¬ k.2.1 = 0) (ht : TX S' T') (hw : WX S' W') (ed : S' 0 26 = k.2.1 - 1) (e16 : ∀ j, S' 16 j = S 16 j) (e17 : ∀ j, S' 17 j = S 17 j) (eT : ∀ j, 0 ≤ j → j < 12 → T' (70 + j) = T (70 + j)) : QX S' T' (W', pn k.2.1, k.2.2) := by
  obtain ⟨h1, h2, h3, h4, h5⟩ := h
  have e : pn k.2.1 = k.2.1 - 1 := if_neg hk
  rw [e]
  refine ⟨ht, hw, ed, by show 0 ≤ k.2.1 - 1 ∧ k.2.1 - 1 ≤ 12; omega, fun j j0 j1 => ?_⟩
  have j2 : j < k.2.1 - 1 := j1
  exact (h5 j j0 (by omega)).ex (e16 j) (e17 j) (eT j j0 (by omega))
theorem p_number {N : Nat} {S : s_M} {T : Int → List Int} {k : skT} (h : QX S T k) : ∃ S', A_number N S = some (vN k, S') ∧ QX S' T (sTN k) ∧ exK S S' ∧ rI (vN k) := by
  have hn := h.2.2.2.1
  have hd := h.2.2.1
  by_cases e : k.2.1 = 0
  · refine ⟨m_s S 1 7 (wi32 (S 1 7 + 1)), ?_, ?_, exK.put (Or.inl rfl), ?_⟩
    · rw [A_number_e, if_pos (by omega), bnd_e (p_warn (by decide)), show vN k = 0 from if_pos e]
    · have := h.warn (i := 7) (by decide)
      unfold sTN
      rw [show qW k.2.1 k.2.2 k.1 = inc k.1 7 from if_pos e, show pn k.2.1 = k.2.1 from (if_pos e).trans e.symm]
      exact this
    · rw [show vN k = 0 from if_pos e]
      decide
  · have hv := h.2.2.2.2 (k.2.1 - 1) (by omega) (by omega)
    obtain ⟨v1, v2, v3, v4⟩ := hv
    by_cases e0 : (k.2.2 (k.2.1 - 1)).1 = 0
    · refine ⟨m_s S 0 26 (S 0 26 - 1), ?_, ?_, exK.put (by omega), ?_⟩
      · rw [A_number_e, if_neg (by omega), chk_e (by omega), chk_e (by omega), if_pos (by rw [hd, v2, e0]), chk_e (by omega), hd, v3 e0, show vN k = (k.2.2 (k.2.1 - 1)).2.1 from (if_neg e).trans (if_pos e0)]
      · unfold sTN
        rw [show qW k.2.1 k.2.2 k.1 = k.1 from (if_neg e).trans (if_pos e0)]
        exact h.pop e (h.1.ex (fun z j hz => m_sk (by omega))) (h.2.1.ex (fun j => m_sk (by decide))) (by rw [m_s_s, hd]) (fun j => m_sk (by decide)) (fun j => m_sk (by decide)) (fun _ _ _ => rfl)
      · rw [show vN k = (k.2.2 (k.2.1 - 1)).2.1 from (if_neg e).trans (if_pos e0)]
        rcases v1 with v1 | v1 | v1
        · exact v1.2.2
        · omega
        · omega
    · have hp := h.pop (W' := k.1) e (S' := m_s S 0 26 (S 0 26 - 1)) (h.1.ex (fun z j hz => m_sk (by omega))) (h.2.1.ex (fun j => m_sk (by decide))) (by rw [m_s_s, hd]) (fun j => m_sk (by decide)) (fun j => m_sk (by decide)) (fun _ _ _ => rfl)
      refine ⟨m_s (m_s S 0 26 (S 0 26 - 1)) 1 7 (wi32 (m_s S 0 26 (S 0 26 - 1) 1 7 + 1)), ?_, ?_, (exK.put (q := 0) (j := 26) (by omega)).trans (exK.put (Or.inl rfl)), ?_⟩
      · rw [A_number_e, if_neg (by omega), chk_e (by omega), chk_e (by omega), if_neg (by rw [hd, v2]; exact e0), bnd_e (p_warn (by decide)), show vN k = 0 from (if_neg e).trans (if_neg e0)]
      · have := hp.warn (i := 7) (by decide)
        unfold sTN
        rw [show qW k.2.1 k.2.2 k.1 = inc k.1 7 from (if_neg e).trans (if_neg e0)]
        exact this
      · rw [show vN k = 0 from (if_neg e).trans (if_neg e0)]
        decide
theorem sTT_z {k : skT} (e : k.2.1 = 0) : sTT k = (inc k.1 7, k.2) := by
  unfold sTT
  rw [show tW k.2.1 k.2.2 k.1 = inc k.1 7 from if_pos e, show pn k.2.1 = k.2.1 from (if_pos e).trans e.symm]
theorem p_taken {N : Nat} (hN : 100 ≤ N) {S : s_M} {T : Int → List Int} {k : skT} (h : QX S T k) {t : Int} (ht : 82 ≤ t ∧ t < 85) : ∃ S', A_taken N t S = some (0, S') ∧ QX S' (lset T t (vT k)) (sTT k) ∧ exK S S' ∧ prt (vT k) ∧ (vT k).length ≤ 60 := by
  have hn := h.2.2.2.1
  have hd := h.2.2.1
  obtain ⟨c1, c2⟩ := h.1.clear (t := t)
  have e26 : m_s S 3 t 0 0 26 = S 0 26 := m_sk (by decide)
  by_cases e : k.2.1 = 0
  · have hv : vT k = [] := if_pos e
    have h0 : QX (m_s S 3 t 0) (lset T t []) k := ⟨c1, h.2.1.ex (fun j => m_sk (by decide)), e26.trans hd, hn, fun j j0 j1 => (h.2.2.2.2 j j0 j1).ex (m_sk (by decide)) (m_sk (by decide)) (lset_ne (by omega))⟩
    refine ⟨m_s (m_s S 3 t 0) 1 7 (wi32 (m_s S 3 t 0 1 7 + 1)), ?_, ?_, (exK.put (by omega)).trans (exK.put (Or.inl rfl)), by rw [hv]; exact prt_nil, by rw [hv]; decide⟩
    · rw [A_taken_e, bnd_e (p_clear (by omega)), if_pos (by rw [e26]; omega), bnd_e (p_warn (by decide))]
    · rw [hv, sTT_z e]
      exact h0.warn (by decide)
  · obtain ⟨v1, v2, v3, v4⟩ := h.2.2.2.2 (k.2.1 - 1) (by omega) (by omega)
    have e16 : m_s S 3 t 0 16 (S 0 26 - 1) = (k.2.2 (k.2.1 - 1)).1 := by rw [m_sk (by decide), hd, v2]
    have hp : QX (m_s (m_s S 3 t 0) 0 26 (S 0 26 - 1)) (lset T t []) (k.1, pn k.2.1, k.2.2) := h.pop e (c1.ex (fun z j hz => m_sk (by omega))) (h.2.1.ex (fun j => by rw [m_sk (by decide), m_sk (by decide)])) (by rw [m_s_s, hd]) (fun j => by rw [m_sk (by decide), m_sk (by decide)]) (fun j => by rw [m_sk (by decide), m_sk (by decide)]) (fun j j0 j1 => lset_ne (by omega))
    by_cases e1 : (k.2.2 (k.2.1 - 1)).1 = 1
    · have hv : vT k = (k.2.2 (k.2.1 - 1)).2.2 := (if_neg e).trans (if_neg (by rw [e1]; decide))
      have hw : tW k.2.1 k.2.2 k.1 = k.1 := (if_neg e).trans (if_neg (by rw [e1]; decide))
      obtain ⟨S2, d1, d2, d3⟩ := p_copy (N := N) hN hp.1 (a := 70 + (S 0 26 - 1)) (b := t) (by omega) (by omega)
      have eT : lset T t [] (70 + (S 0 26 - 1)) = vT k := by
        rw [lset_ne (by omega), hd, v4 e1, hv]
      rw [eT] at d2
      have f26 : S2 0 26 = k.2.1 - 1 := by rw [d3 0 26 (by decide) (by decide), m_s_s, hd]
      have f16 : S2 16 (k.2.1 - 1) = 1 := by rw [d3 16 _ (by decide) (by decide), m_sk (by decide), m_sk (by decide), v2, e1]
      have dT : TX S2 (lset T t (vT k)) := by
        intro q q0 q1
        have := d2 q q0 q1
        by_cases eq : q = t
        · rw [eq, lset_at] at this
          rw [eq, lset_at]
          exact this
        · rw [lset_ne eq, lset_ne eq] at this
          rw [lset_ne eq]
          exact this
      refine ⟨S2, ?_, ?_, ((exK.put (by omega)).trans (exK.put (q := 0) (j := 26) (by omega))).trans d3.exK, ?_, ?_⟩
      · rw [A_taken_e, bnd_e (p_clear (by omega)), if_neg (by rw [e26]; omega), e26, chk_e (by omega), chk_e (by omega), if_pos (by rw [e16, e1]), chk_e (by omega), bnd_e d1, A_taken_j54_e, f26, chk_e (by omega), if_neg (by rw [f16]; decide), A_taken_j72_e]
      · unfold sTT
        rw [hw]
        exact h.pop e dT (h.2.1.ex (fun j => by rw [d3 1 j (by decide) (by decide), m_sk (by decide), m_sk (by decide)])) f26 (fun j => by rw [d3 16 j (by decide) (by decide), m_sk (by decide), m_sk (by decide)]) (fun j => by rw [d3 17 j (by decide) (by decide), m_sk (by decide), m_sk (by decide)]) (fun j j0 j1 => lset_ne (by omega))
      · rw [hv]
        rcases v1 with v1 | v1 | v1
        · omega
        · exact v1.2.2.1
        · omega
      · rw [hv]
        rcases v1 with v1 | v1 | v1
        · omega
        · exact v1.2.2.2
        · omega
    · have f26 : m_s (m_s S 3 t 0) 0 26 (S 0 26 - 1) 0 26 = k.2.1 - 1 := by rw [m_s_s, hd]
      have f16 : m_s (m_s S 3 t 0) 0 26 (S 0 26 - 1) 16 (k.2.1 - 1) = (k.2.2 (k.2.1 - 1)).1 := by rw [m_sk (by decide), m_sk (by decide), v2]
      have hv : vT k = [] := by
        unfold vT qt
        rw [if_neg e]
        split
        · rfl
        · rcases v1 with v1 | v1 | v1
          · exact v1.2.1
          · omega
          · exact v1.2.2
      by_cases e0 : (k.2.2 (k.2.1 - 1)).1 = 0
      · refine ⟨m_s (m_s (m_s S 3 t 0) 0 26 (S 0 26 - 1)) 1 7 (wi32 (m_s (m_s S 3 t 0) 0 26 (S 0 26 - 1) 1 7 + 1)), ?_, ?_, ((exK.put (by omega)).trans (exK.put (q := 0) (j := 26) (by omega))).trans (exK.put (Or.inl rfl)), by rw [hv]; exact prt_nil, by rw [hv]; decide⟩
        · rw [A_taken_e, bnd_e (p_clear (by omega)), if_neg (by rw [e26]; omega), e26, chk_e (by omega), chk_e (by omega), if_neg (by rw [e16]; exact e1), A_taken_j54_e, f26, chk_e (by omega), if_pos (by rw [f16, e0]), bnd_e (p_warn (by decide)), A_taken_j72_e]
        · have := hp.warn (i := 7) (by decide)
          rw [hv]
          unfold sTT
          rw [show tW k.2.1 k.2.2 k.1 = inc k.1 7 from (if_neg e).trans (if_pos e0)]
          exact this
      · refine ⟨m_s (m_s S 3 t 0) 0 26 (S 0 26 - 1), ?_, ?_, (exK.put (by omega)).trans (exK.put (q := 0) (j := 26) (by omega)), by rw [hv]; exact prt_nil, by rw [hv]; decide⟩
        · rw [A_taken_e, bnd_e (p_clear (by omega)), if_neg (by rw [e26]; omega), e26, chk_e (by omega), chk_e (by omega), if_neg (by rw [e16]; exact e1), A_taken_j54_e, f26, chk_e (by omega), if_neg (by rw [f16]; exact e0), A_taken_j72_e]
        · rw [hv]
          unfold sTT
          rw [show tW k.2.1 k.2.2 k.1 = k.1 from (if_neg e).trans (if_neg e0)]
          exact hp
theorem vA_ok {S : s_M} {T : Int → List Int} {k : skT} (h : QX S T k) : svk (vA k) := by
  have hn := h.2.2.2.1
  unfold vA pv
  split
  · exact Or.inl ⟨rfl, rfl, by decide⟩
  · exact (h.2.2.2.2 (k.2.1 - 1) (by omega) (by omega)).1
theorem p_any {N : Nat} (hN : 100 ≤ N) {S : s_M} {T : Int → List Int} {k : skT} (h : QX S T k) {t : Int} (ht : 82 ≤ t ∧ t < 85) : ∃ S', A_any N t S = some ((vA k).2.1, S') ∧ QX S' (lset T t (vA k).2.2) (sTA k) ∧ exK S S' ∧ S' 0 49 = (vA k).1 := by
  have hn := h.2.2.2.1
  have hd := h.2.2.1
  obtain ⟨c1, c2⟩ := h.1.clear (t := t)
  have e26 : m_s S 3 t 0 0 26 = S 0 26 := m_sk (by decide)
  by_cases e : k.2.1 = 0
  · have hv : vA k = (0, 0, []) := if_pos e
    have h0 : QX (m_s (m_s S 3 t 0) 0 49 0) (lset T t []) k := ⟨c1.ex (fun z j hz => m_sk (by omega)), h.2.1.ex (fun j => by rw [m_sk (by decide), m_sk (by decide)]), by rw [m_sj (by decide), e26, hd], hn, fun j j0 j1 => (h.2.2.2.2 j j0 j1).ex (by rw [m_sk (by decide), m_sk (by decide)]) (by rw [m_sk (by decide), m_sk (by decide)]) (lset_ne (by omega))⟩
    refine ⟨m_s (m_s (m_s S 3 t 0) 0 49 0) 1 7 (wi32 (m_s (m_s S 3 t 0) 0 49 0 1 7 + 1)), ?_, ?_, ((exK.put (by omega)).trans (exK.put (q := 0) (j := 49) (by omega))).trans (exK.put (Or.inl rfl)), ?_⟩
    · rw [A_any_e, bnd_e (p_clear (by omega)), if_pos (by rw [e26]; omega), bnd_e (p_warn (by decide)), hv]
    · rw [hv]
      have := h0.warn (i := 7) (by decide)
      unfold sTA
      rw [show pW k.2.1 k.1 = inc k.1 7 from if_pos e, show pn k.2.1 = k.2.1 from (if_pos e).trans e.symm]
      exact this
    · rw [m_sk (by decide), m_s_s, hv]
  · obtain ⟨v1, v2, v3, v4⟩ := h.2.2.2.2 (k.2.1 - 1) (by omega) (by omega)
    have hv : vA k = k.2.2 (k.2.1 - 1) := if_neg e
    have hw : pW k.2.1 k.1 = k.1 := if_neg e
    have e16 : m_s S 3 t 0 16 (S 0 26 - 1) = (k.2.2 (k.2.1 - 1)).1 := by rw [m_sk (by decide), hd, v2]
    by_cases e1 : (k.2.2 (k.2.1 - 1)).1 = 1
    · have hx : TX (m_s (m_s (m_s (m_s S 3 t 0) 0 49 0) 0 26 (S 0 26 - 1)) 0 49 (m_s S 3 t 0 16 (S 0 26 - 1))) (lset T t []) := c1.ex (fun z j hz => by rw [m_sk (by omega), m_sk (by omega), m_sk (by omega)])
      obtain ⟨S2, d1, d2, d3⟩ := p_copy (N := N) hN hx (a := 70 + (S 0 26 - 1)) (b := t) (by omega) (by omega)
      have eT : lset T t [] (70 + (S 0 26 - 1)) = (k.2.2 (k.2.1 - 1)).2.2 := by
        rw [lset_ne (by omega), hd, v4 e1]
      rw [eT] at d2
      have f26 : S2 0 26 = k.2.1 - 1 := by rw [d3 0 26 (by decide) (by decide), m_sj (by decide), m_s_s, hd]
      have f49 : S2 0 49 = 1 := by rw [d3 0 49 (by decide) (by decide), m_s_s, e16, e1]
      have dT : TX S2 (lset T t (k.2.2 (k.2.1 - 1)).2.2) := by
        intro q q0 q1
        have := d2 q q0 q1
        by_cases eq : q = t
        · rw [eq, lset_at] at this
          rw [eq, lset_at]
          exact this
        · rw [lset_ne eq, lset_ne eq] at this
          rw [lset_ne eq]
          exact this
      refine ⟨S2, ?_, ?_, ((((exK.put (by omega)).trans (exK.put (q := 0) (j := 49) (by omega))).trans (exK.put (q := 0) (j := 26) (by omega))).trans (exK.put (q := 0) (j := 49) (by omega))).trans d3.exK, by rw [f49, hv, e1]⟩
      · rw [A_any_e, bnd_e (p_clear (by omega)), if_neg (by rw [e26]; omega), e26, chk_e (by omega), chk_e (by omega), if_pos (by rw [e16, e1]), chk_e (by omega), bnd_e d1, A_any_j68_e, if_neg (by rw [f49]; decide), A_any_j88_e, hv]
        rcases v1 with v1 | v1 | v1
        · omega
        · rw [v1.2.1]
        · omega
      · rw [hv]
        unfold sTA
        rw [hw]
        exact h.pop e dT (h.2.1.ex (fun j => by rw [d3 1 j (by decide) (by decide), m_sk (by decide), m_sk (by decide), m_sk (by decide), m_sk (by decide)])) f26 (fun j => by rw [d3 16 j (by decide) (by decide), m_sk (by decide), m_sk (by decide), m_sk (by decide), m_sk (by decide)]) (fun j => by rw [d3 17 j (by decide) (by decide), m_sk (by decide), m_sk (by decide), m_sk (by decide), m_sk (by decide)]) (fun j j0 j1 => lset_ne (by omega))
    · have hv2 : (k.2.2 (k.2.1 - 1)).2.2 = [] := by
        rcases v1 with v1 | v1 | v1
        · exact v1.2.1
        · omega
        · exact v1.2.2
      have f26 : m_s (m_s (m_s (m_s S 3 t 0) 0 49 0) 0 26 (S 0 26 - 1)) 0 49 (m_s S 3 t 0 16 (S 0 26 - 1)) 0 26 = k.2.1 - 1 := by rw [m_sj (by decide), m_s_s, hd]
      have f49 : m_s (m_s (m_s (m_s S 3 t 0) 0 49 0) 0 26 (S 0 26 - 1)) 0 49 (m_s S 3 t 0 16 (S 0 26 - 1)) 0 49 = (k.2.2 (k.2.1 - 1)).1 := by rw [m_s_s, e16]
      refine ⟨m_s (m_s (m_s (m_s S 3 t 0) 0 49 0) 0 26 (S 0 26 - 1)) 0 49 (m_s S 3 t 0 16 (S 0 26 - 1)), ?_, ?_, (((exK.put (by omega)).trans (exK.put (q := 0) (j := 49) (by omega))).trans (exK.put (q := 0) (j := 26) (by omega))).trans (exK.put (q := 0) (j := 49) (by omega)), by rw [f49, hv]⟩
      · rw [A_any_e, bnd_e (p_clear (by omega)), if_neg (by rw [e26]; omega), e26, chk_e (by omega), chk_e (by omega), if_neg (by rw [e16]; exact e1), A_any_j68_e, f49, f26, hv]
        by_cases e0 : (k.2.2 (k.2.1 - 1)).1 = 0
        · rw [if_pos e0, chk_e (by omega), A_any_j88_e, m_sk (by decide), m_sk (by decide), m_sk (by decide), m_sk (by decide), v3 e0]
        · rw [if_neg e0, A_any_j88_e]
          rcases v1 with v1 | v1 | v1
          · omega
          · omega
          · rw [v1.2.1]
      · rw [hv, hv2]
        unfold sTA
        rw [hw]
        exact h.pop e (c1.ex (fun z j hz => by rw [m_sk (by omega), m_sk (by omega), m_sk (by omega)])) (h.2.1.ex (fun j => by rw [m_sk (by decide), m_sk (by decide), m_sk (by decide), m_sk (by decide)])) f26 (fun j => by rw [m_sk (by decide), m_sk (by decide), m_sk (by decide), m_sk (by decide)]) (fun j => by rw [m_sk (by decide), m_sk (by decide), m_sk (by decide), m_sk (by decide)]) (fun j j0 j1 => lset_ne (by omega))
theorem p_giveAny {N : Nat} (hN : 100 ≤ N) {S : s_M} {T : Int → List Int} {k : skT} (h : QX S T k) {x : sva} (hx : svk x) {t : Int} (ht : 0 ≤ t ∧ t < 85) (hT : T t = x.2.2) : ∃ S' T', A_giveAny N x.1 x.2.1 t S = some (0, S') ∧ QX S' T' (sG x k) ∧ exK S S' ∧ ∀ q, (q < 70 ∨ 82 ≤ q) → T' q = T q := by
  obtain ⟨a, b, c⟩ := x
  rcases hx with hx | hx | hx
  · obtain ⟨x1, x2, x3⟩ := hx
    have x1 : a = 0 := x1
    have x2 : c = [] := x2
    subst x1
    subst x2
    obtain ⟨S', r1, r2, r3⟩ := p_giveNumber (N := N) h x3
    exact ⟨S', T, by rw [A_giveAny_e, if_pos rfl, bnd_e r1, A_giveAny_j29_e], r2, r3, fun _ _ => rfl⟩
  · obtain ⟨x1, x2, x3, x4⟩ := hx
    have x1 : a = 1 := x1
    have x2 : b = 0 := x2
    have hT : T t = c := hT
    subst x1
    subst x2
    obtain ⟨S', T', r1, r2, r3, r4⟩ := p_giveText (N := N) hN h ht (by rw [hT]; exact x3)
    rw [hT] at r2
    exact ⟨S', T', by show A_giveAny N 1 0 t S = some (0, S'); rw [A_giveAny_e, if_neg (by decide), if_pos rfl, bnd_e r1, A_giveAny_j29_e], r2, r3, r4⟩
  · obtain ⟨x1, x2, x3⟩ := hx
    have x1 : a = 2 := x1
    have x2 : b = 0 := x2
    have x3 : c = [] := x3
    subst x1
    subst x2
    subst x3
    obtain ⟨S', r1, r2, r3⟩ := p_giveMissing (N := N) h
    exact ⟨S', T, by rw [A_giveAny_e, if_neg (by decide), if_neg (by decide), bnd_e r1, A_giveAny_j29_e], r2, r3, fun _ _ => rfl⟩
