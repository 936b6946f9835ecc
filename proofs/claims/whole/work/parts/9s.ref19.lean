/-- what a run's coupling reads -/
def exZ (S S' : s_M) : Prop := ∀ q j : Int, (1 ≤ q ∧ q ≤ 8) ∨ (15 ≤ q ∧ q ≤ 17) ∨ (26 ≤ q ∧ q ≤ 28) ∨ (q = 0 ∧ (j = 6 ∨ j = 26 ∨ j = 31 ∨ j = 44 ∨ j = 45)) → S' q j = S q j
theorem exZ.trans {A B C : s_M} (h1 : exZ A B) (h2 : exZ B C) : exZ A C := fun q j a => (h2 q j a).trans (h1 q j a)
theorem exZ.put {S : s_M} {q j x : Int} (h : (18 ≤ q ∧ q ≤ 21) ∨ (q = 0 ∧ (j = 29 ∨ j = 30 ∨ j = 32))) : exZ S (m_s S q j x) := fun q' j' a => m_s_n (fun z => by
  obtain ⟨z1, z2⟩ := z
  omega)
theorem RX.exz {S S' : s_M} {T : Int → List Int} {hd ns m : Int} {L : Int → Int} {s : rnT} (h : RX S T hd ns m L s) (e : exZ S S') : RX S' T hd ns m L s := by
  obtain ⟨a1, a2, a3, a4, a5, a6⟩ := h
  obtain ⟨b1, b2, b3, b4, b5⟩ := a1
  refine ⟨⟨b1.ex (fun q j z => e q j (by omega)), b2.ex (fun j => e 1 j (by omega)), (e 0 26 (by omega)).trans b3, b4, fun i i0 i1 => (b5 i i0 i1).ex (e 16 i (by omega)) (e 17 i (by omega)) rfl⟩, a2.exg (fun q j z => e q j (by omega)) (fun q _ => rfl), fun g g0 g1 => ?_, a4.ex (fun q j z => e q j (by omega)), ⟨(e 0 31 (by omega)).trans a5.1, a5.2⟩, a6⟩
  rw [e 15 g (by omega)]
  exact a3 g g0 g1
def fnk (S K : s_M) (O Q Z : Int → Int) : Prop := (∀ q j : Int, (q = 2 ∨ (9 ≤ q ∧ q ≤ 11) ∨ (q = 0 ∧ (j = 0 ∨ j = 2 ∨ j = 11 ∨ j = 13 ∨ j = 15))) → S q j = K q j) ∧ ∀ f : Int, 0 ≤ f → f < 6 → S 12 f = Z f ∧ (0 ≤ Z f ∧ Z f ≤ 24) ∧ ∀ p : Int, 0 ≤ p → p < Z f → S 13 (24 * f + p) = O (f * 24 + p) ∧ (0 ≤ O (f * 24 + p) ∧ O (f * 24 + p) ≤ 29) ∧ rL (S 14 (24 * f + p)) ∧ Q (f * 24 + p) = if 13 ≤ O (f * 24 + p) then max (S 14 (24 * f + p)) 0 else S 14 (24 * f + p)
theorem fnk.ex {S S' K : s_M} {O Q Z : Int → Int} (h : fnk S K O Q Z) (e : ∀ q j : Int, q = 2 ∨ (9 ≤ q ∧ q ≤ 14) ∨ (q = 0 ∧ (j = 0 ∨ j = 2 ∨ j = 11 ∨ j = 13 ∨ j = 15)) → S' q j = S q j) : fnk S' K O Q Z := ⟨fun q j z => (e q j (by omega)).trans (h.1 q j z), fun f f0 f1 => by
  obtain ⟨a, b, c⟩ := h.2 f f0 f1
  refine ⟨(e 12 f (by omega)).trans a, b, fun p p0 p1 => ?_⟩
  rw [e 13 _ (by omega), e 14 _ (by omega)]
  exact c p p0 p1⟩
def RR (S : s_M) (T : Int → List Int) (hd ns m : Int) (L : Int → Int) (K : s_M) (O Q Z : Int → Int) (s : rnT) : Prop := RX S T hd ns m L s ∧ S 0 30 = s.2.2.2.1 ∧ S 0 32 = 0 ∧ fnk S K O Q Z ∧ rok s
def frm (S : s_M) (lv f p wy lp : Int) : Prop := S 0 29 = lv ∧ (1 ≤ lv ∧ lv ≤ 8) ∧ S 18 (lv - 1) = f ∧ S 19 (lv - 1) = p ∧ S 20 (lv - 1) = wy ∧ S 21 (lv - 1) = lp ∧ (0 ≤ f ∧ f < 6)
def exF (S S' : s_M) (lv : Int) : Prop := ∀ q j : Int, 18 ≤ q ∧ q ≤ 21 → 0 ≤ j → j < lv → S' q j = S q j
theorem exF.trans {A B C : s_M} {lv : Int} (h1 : exF A B lv) (h2 : exF B C lv) : exF A C lv := fun q j a b c => (h2 q j a b c).trans (h1 q j a b c)
theorem exF.refl (S : s_M) (lv : Int) : exF S S lv := fun _ _ _ _ _ => rfl
theorem exF.less {A B : s_M} {lv lw : Int} (h : exF A B lv) (hl : lw ≤ lv) : exF A B lw := fun q j a b c => h q j a b (by omega)
theorem exR.exF {S S' : s_M} (h : exR S S') (lv : Int) : exF S S' lv := fun q j a _ _ => h q j ⟨by omega, by omega, by omega, by omega, by omega, by omega, by omega, by omega⟩
def mu (s : rnT) : Int := 13 * (400 - s.2.2.2.1) + s.1.2.1
theorem RX.dep {S : s_M} {T : Int → List Int} {hd ns m : Int} {L : Int → Int} {s : rnT} (h : RX S T hd ns m L s) : 0 ≤ s.1.2.1 ∧ s.1.2.1 ≤ 12 := h.1.2.2.2.1
def RunT (N : Nat) (S S' : s_M) (k : Nat) : Prop := ∀ n : Nat, A_once_l12 N (n + k) S = A_once_l12 N n S'
def RunF (N : Nat) (S S' : s_M) (k : Nat) : Prop := ∀ n : Nat, A_once_l12 N (n + k) S = some (0, S')
theorem RunT.trans {N : Nat} {A B C : s_M} {k1 k2 : Nat} (h1 : RunT N A B k1) (h2 : RunT N B C k2) : RunT N A C (k2 + k1) := fun n => by
  rw [← Nat.add_assoc, h1, h2]
theorem RunT.fin {N : Nat} {A B C : s_M} {k1 k2 : Nat} (h1 : RunT N A B k1) (h2 : RunF N B C k2) : RunF N A C (k2 + k1) := fun n => by
  rw [← Nat.add_assoc, h1, h2]
theorem headO {N : Nat} {S S1 K : s_M} {O Q Z : Int → Int} {lv f p wy lp : Int} (hk : fnk S K O Q Z) (h32 : S 0 32 = 0) (h : frm S lv f p wy lp) (hp : p < Z f) (ha : A_operate N S = some (0, S1)) : RunT N S S1 1 := fun n => by
  obtain ⟨h29, h8, h18, h19, h20, h21, hf⟩ := h
  have h12 := (hk.2 f hf.1 hf.2).1
  rw [A_once_l12_e, h29, h18, h19, h12, if_pos (by omega), if_pos h32, chk_e (by omega), chk_e (by omega), chk_e (by omega), chk_e (by omega), chk_e (by omega), if_pos hp, bnd_e ha]
theorem headE {N : Nat} {S S1 K : s_M} {O Q Z : Int → Int} {lv f p wy lp : Int} (hk : fnk S K O Q Z) (h32 : S 0 32 = 0) (h : frm S lv f p wy lp) (hp : ¬ p < Z f) (ha : A_ended N S = some (0, S1)) : RunT N S S1 1 := fun n => by
  obtain ⟨h29, h8, h18, h19, h20, h21, hf⟩ := h
  have h12 := (hk.2 f hf.1 hf.2).1
  rw [A_once_l12_e, h29, h18, h19, h12, if_pos (by omega), if_pos h32, chk_e (by omega), chk_e (by omega), chk_e (by omega), chk_e (by omega), chk_e (by omega), if_neg hp, bnd_e ha]
theorem headF {N : Nat} {S : s_M} (h29 : 0 < S 0 29) (h32 : S 0 32 = 1) : RunF N S S 1 := fun n => by
  rw [A_once_l12_e, if_pos h29, if_neg (by omega), A_once_j70_e]
def opS (S : s_M) (lv p : Int) : s_M := m_s (m_s S 19 (lv - 1) (p + 1)) 0 30 (S 0 30 + 1)
def psh (S : s_M) (lv g wy x : Int) : s_M := m_s (m_s (m_s (m_s (m_s S 18 lv g) 19 lv 0) 20 lv wy) 21 lv x) 0 29 (lv + 1)
theorem p_push {N : Nat} {S : s_M} {lv g wy x : Int} (h29 : S 0 29 = lv) (hl : 0 ≤ lv ∧ lv < 8) : A_push N g wy x S = some (0, psh S lv g wy x) := by
  rw [A_push_e, h29, if_neg (by omega), chk_e (by omega), chk_e (by omega), chk_e (by omega), chk_e (by omega), chk_e (by omega)]
  rfl
theorem p_push8 {N : Nat} {S : s_M} {g wy x : Int} (h29 : S 0 29 = 8) : A_push N g wy x S = some (0, m_s S 0 32 1) := by
  rw [A_push_e, if_pos h29]
theorem psh_frm {S : s_M} {lv g wy x : Int} (hl : 0 ≤ lv ∧ lv < 8) (hg : 0 ≤ g ∧ g < 6) : frm (psh S lv g wy x) (lv + 1) g 0 wy x ∧ exF S (psh S lv g wy x) lv ∧ exZ S (psh S lv g wy x) ∧ ∀ q j : Int, (q = 2 ∨ (9 ≤ q ∧ q ≤ 14) ∨ (q = 0 ∧ (j = 0 ∨ j = 2 ∨ j = 11 ∨ j = 13 ∨ j = 15))) ∨ (q = 0 ∧ (j = 30 ∨ j = 32)) → psh S lv g wy x q j = S q j := by
  unfold psh
  refine ⟨⟨m_s_s, by omega, ?_, ?_, ?_, ?_, hg⟩, fun q j z j0 j1 => ?_, ((((exZ.put (by omega)).trans (exZ.put (by omega))).trans (exZ.put (by omega))).trans (exZ.put (by omega))).trans (exZ.put (by omega)), fun q j z => ?_⟩
  · rw [show lv + 1 - 1 = lv by omega, m_sk (by decide), m_sk (by decide), m_sk (by decide), m_sk (by decide), m_s_s]
  · rw [show lv + 1 - 1 = lv by omega, m_sk (by decide), m_sk (by decide), m_sk (by decide), m_s_s]
  · rw [show lv + 1 - 1 = lv by omega, m_sk (by decide), m_sk (by decide), m_s_s]
  · rw [show lv + 1 - 1 = lv by omega, m_sk (by decide), m_s_s]
  · rw [m_sk (by omega), m_sj (by omega), m_sj (by omega), m_sj (by omega), m_sj (by omega)]
  · rw [m_s_n (by omega), m_sk (by omega), m_sk (by omega), m_sk (by omega), m_sk (by omega)]
theorem RR.pshd {S : s_M} {T : Int → List Int} {hd ns m : Int} {L : Int → Int} {K : s_M} {O Q Z : Int → Int} {s : rnT} (h : RR S T hd ns m L K O Q Z s) {lv g wy x : Int} (hl : 0 ≤ lv ∧ lv < 8) (hg : 0 ≤ g ∧ g < 6) : RR (psh S lv g wy x) T hd ns m L K O Q Z s := by
  obtain ⟨a1, a2, a3, a4⟩ := psh_frm (S := S) (wy := wy) (x := x) hl hg
  obtain ⟨b1, b2, b3, b4, b5⟩ := h
  exact ⟨b1.exz a3, (a4 0 30 (by omega)).trans b2, (a4 0 32 (by omega)).trans b3, b4.ex (fun q j z => a4 q j (by omega)), b5⟩
theorem RR.deep {S : s_M} {T : Int → List Int} {hd ns m : Int} {L : Int → Int} {K : s_M} {O Q Z : Int → Int} {s : rnT} (h : RR S T hd ns m L K O Q Z s) {x : Int} : RR (m_s S 0 29 x) T hd ns m L K O Q Z s := by
  obtain ⟨b1, b2, b3, b4, b5⟩ := h
  exact ⟨b1.exz (exZ.put (by omega)), by rw [m_sj (by decide)]; exact b2, by rw [m_sj (by decide)]; exact b3, b4.ex (fun q j z => m_s_n (by omega)), b5⟩
theorem RR.opd {S : s_M} {T : Int → List Int} {hd ns m : Int} {L : Int → Int} {K : s_M} {O Q Z : Int → Int} {s : rnT} (h : RR S T hd ns m L K O Q Z s) (h4 : s.2.2.2.1 < 400) {lv p : Int} : RR (opS S lv p) T hd ns m L K O Q Z (dni s) := by
  obtain ⟨b1, b2, b3, b4, b5⟩ := h
  have e : exZ S (opS S lv p) := (exZ.put (by omega)).trans (exZ.put (by omega))
  refine ⟨b1.exz e, ?_, ?_, b4.ex (fun q j z => ?_), rok_dni b5 h4⟩
  · unfold opS
    rw [m_s_s, b2]
    rfl
  · unfold opS
    rw [m_sj (by decide), m_sk (by decide)]
    exact b3
  · unfold opS
    rw [m_s_n (by omega), m_s_n (by omega)]
theorem opS_frm {S : s_M} {lv f p wy lp : Int} (h : frm S lv f p wy lp) : frm (opS S lv p) lv f (p + 1) wy lp ∧ exF S (opS S lv p) (lv - 1) := by
  obtain ⟨h29, h8, h18, h19, h20, h21, hf⟩ := h
  unfold opS
  refine ⟨⟨?_, h8, ?_, ?_, ?_, ?_, hf⟩, fun q j z j0 j1 => ?_⟩
  · rw [m_sj (by decide), m_sk (by decide)]
    exact h29
  · rw [m_sk (by decide), m_sk (by decide)]
    exact h18
  · rw [m_sk (by decide), m_s_s]
  · rw [m_sk (by decide), m_sk (by decide)]
    exact h20
  · rw [m_sk (by decide), m_sk (by decide)]
    exact h21
  · rw [m_sk (by omega), m_sj (by omega)]
theorem frm.exR {S S' : s_M} {lv f p wy lp : Int} (h : frm S lv f p wy lp) (e : exR S S') : frm S' lv f p wy lp := by
  obtain ⟨h29, h8, h18, h19, h20, h21, hf⟩ := h
  have g : ∀ q j : Int, (18 ≤ q ∧ q ≤ 21) ∨ (q = 0 ∧ j = 29) → S' q j = S q j := fun q j z => e q j ⟨by omega, by omega, by omega, by omega, by omega, by omega, by omega, by omega⟩
  exact ⟨(g 0 29 (by omega)).trans h29, h8, (g 18 _ (by omega)).trans h18, (g 19 _ (by omega)).trans h19, (g 20 _ (by omega)).trans h20, (g 21 _ (by omega)).trans h21, hf⟩
theorem p_operate {N : Nat} {S : s_M} {lv f p wy lp : Int} (h : frm S lv f p wy lp) (hp : 0 ≤ p ∧ p < 24) (hd : 0 ≤ S 0 30 ∧ S 0 30 < 400) {op x : Int} (ho : S 13 (24 * f + p) = op) (hx : S 14 (24 * f + p) = x) : A_operate N S = if op = 13 then (bnd (A_number N (opS S lv p)) fun v81 S82 => bnd (A_push N (wi32 (if 0 < v81 then (l_mod (l_quo (if x < 0 then (0 : Int) else x) 6) 6 : Int) else (l_mod (if x < 0 then (0 : Int) else x) 6))) 0 0 S82) fun v90 S91 => A_operate_j220 N S91) else (if op = 14 then (bnd (A_push N (wi32 (l_mod (l_quo (if x < 0 then (0 : Int) else x) 6) 6)) 1 (if x < 0 then (0 : Int) else x) (opS S lv p)) fun v73 S74 => A_operate_j220 N S74) else (if op = 15 then (bnd (A_push N (wi32 (l_mod (if x < 0 then (0 : Int) else x) 6)) 0 0 (opS S lv p)) fun v65 S66 => A_operate_j220 N S66) else (if op < 13 then (bnd (A_simple N op x (opS S lv p)) fun v57 S58 => A_operate_j220 N S58) else (if op < 23 then (bnd (A_more N op x (opS S lv p)) fun v49 S50 => A_operate_j220 N S50) else (bnd (A_texts N op x (opS S lv p)) fun v41 S42 => A_operate_j220 N S42))))) := by
  obtain ⟨h29, h8, h18, h19, h20, h21, hf⟩ := h
  rw [A_operate_e, if_neg (by omega), h29, h18, h19, ho, hx, chk_e (by omega), chk_e (by omega), chk_e (by omega), chk_e (by omega), chk_e (by omega), chk_e (by omega), chk_e (by omega), chk_e (by omega), chk_e (by omega), chk_e (by omega), chk_e (by omega)]
  rfl
theorem RR.after {S S' : s_M} {T T' : Int → List Int} {hd ns m : Int} {L : Int → Int} {K : s_M} {O Q Z : Int → Int} {s s' : rnT} (h : RR S T hd ns m L K O Q Z s) (h' : RX S' T' hd ns m L s') (e : exR S S') (hdn : s'.2.2.2.1 = s.2.2.2.1) (hr : rok s') : RR S' T' hd ns m L K O Q Z s' := by
  obtain ⟨b1, b2, b3, b4, b5⟩ := h
  have g : ∀ q j : Int, (q = 2 ∨ (9 ≤ q ∧ q ≤ 14) ∨ (q = 0 ∧ (j = 0 ∨ j = 2 ∨ j = 11 ∨ j = 13 ∨ j = 15))) ∨ (q = 0 ∧ (j = 30 ∨ j = 32)) → S' q j = S q j := fun q j z => e q j ⟨by omega, by omega, by omega, by omega, by omega, by omega, by omega, by omega⟩
  exact ⟨h', (g 0 30 (by omega)).trans (b2.trans hdn.symm), (g 0 32 (by omega)).trans b3, b4.ex (fun q j z => g q j (by omega)), hr⟩
/-- an operation that calls nothing -/
theorem p_stepS {N : Nat} (hN : 1000 ≤ N) {S : s_M} {T : Int → List Int} {hd ns m : Int} {L : Int → Int} {K : s_M} {O Q Z : Int → Int} {s : rnT} {lv f p wy lp : Int} (h : RR S T hd ns m L K O Q Z s) (hf : frm S lv f p wy lp) (hp : 0 ≤ p ∧ p < Z f) (h4 : s.2.2.2.1 < 400) (ho : O (f * 24 + p) < 13 ∨ 15 < O (f * 24 + p)) (d : Nat) : ∃ S' T', A_operate N S = some (0, S') ∧ (stp hd ns (rf hd ns O Q Z d) (O (f * 24 + p)) (Q (f * 24 + p)) (dni s)).1 = true ∧ RR S' T' hd ns m L K O Q Z (stp hd ns (rf hd ns O Q Z d) (O (f * 24 + p)) (Q (f * 24 + p)) (dni s)).2 ∧ frm S' lv f (p + 1) wy lp ∧ exF S S' (lv - 1) ∧ mu (stp hd ns (rf hd ns O Q Z d) (O (f * 24 + p)) (Q (f * 24 + p)) (dni s)).2 + 1 ≤ mu s := by
  have hf' := hf
  obtain ⟨h29, h8, h18, h19, h20, h21, hf6⟩ := hf
  obtain ⟨z1, z2, z3⟩ := h.2.2.2.1.2 f hf6.1 hf6.2
  obtain ⟨o1, o2, o3, o4⟩ := z3 p hp.1 hp.2
  have hrk := h.2.2.2.2
  have hdn := h.2.1
  have hR := h.opd h4 (lv := lv) (p := p)
  obtain ⟨f1, f2⟩ := opS_frm hf'
  have hop := p_operate (N := N) hf' (by omega) (by have := hrk.1; omega) o1 rfl
  have hg := stp_g (hd := hd) (ns := ns) (F := rf hd ns O Q Z d) (op := O (f * 24 + p)) (x := Q (f * 24 + p)) (fun f s h => rf_g d f s h) s hrk h4
  have hdep := h.1.dep
  have hnp : (dni s).2.2.1.1 < 2147470000 := by
    have := hrk.2
    have := hrk.1
    show s.2.2.1.1 < 2147470000
    omega
  have fin : ∀ (s' : rnT) (S' : s_M) (T' : Int → List Int), RX S' T' hd ns m L s' → exR (opS S lv p) S' → s'.2.2.2.1 = (dni s).2.2.2.1 → rok s' → RR S' T' hd ns m L K O Q Z s' ∧ frm S' lv f (p + 1) wy lp ∧ exF S S' (lv - 1) ∧ mu s' + 1 ≤ mu s := fun s' S' T' a b c d => by
    refine ⟨hR.after a b c d, f1.exR b, f2.trans (b.exF _), ?_⟩
    have := a.dep
    unfold mu
    rw [c]
    show 13 * (400 - (s.2.2.2.1 + 1)) + s'.1.2.1 + 1 ≤ _
    omega
  rw [hop]
  rw [if_neg (by omega), if_neg (by omega), if_neg (by omega)]
  by_cases c1 : O (f * 24 + p) < 13
  · have hs : stp hd ns (rf hd ns O Q Z d) (O (f * 24 + p)) (Q (f * 24 + p)) (dni s) = (true, wkS hd ns (O (f * 24 + p)) (Q (f * 24 + p)) (dni s)) := if_pos c1
    rw [hs] at hg ⊢
    obtain ⟨S1, T1, a1, a2, a3⟩ := p_simple (N := N) hN hR.1 (op := O (f * 24 + p)) (x := Q (f * 24 + p)) (by omega)
    rw [if_neg (by omega)] at o4
    obtain ⟨g1, g2, g3, g4⟩ := fin _ S1 T1 a2 a3 rfl hg.2
    refine ⟨S1, T1, ?_, rfl, g1, g2, g3, g4⟩
    rw [if_pos c1, ← o4, bnd_e a1, A_operate_j220_e]
  · rw [if_neg c1]
    rw [if_pos (by omega)] at o4
    by_cases c2 : 22 < O (f * 24 + p)
    · have hs : stp hd ns (rf hd ns O Q Z d) (O (f * 24 + p)) (Q (f * 24 + p)) (dni s) = (true, wkT (O (f * 24 + p)) (Q (f * 24 + p)) (dni s)) := (if_neg c1).trans (if_pos c2)
      rw [hs] at hg ⊢
      rw [o4] at hg ⊢
      obtain ⟨S1, T1, a1, a2, a3⟩ := p_texts (N := N) hN hR.1 (op := O (f * 24 + p)) o3 (by omega)
      obtain ⟨g1, g2, g3, g4⟩ := fin _ S1 T1 a2 a3 (wkT_pg _ _ _).2 hg.2
      refine ⟨S1, T1, ?_, rfl, g1, g2, g3, g4⟩
      rw [if_neg (by omega), bnd_e a1, A_operate_j220_e]
    · have hs : stp hd ns (rf hd ns O Q Z d) (O (f * 24 + p)) (Q (f * 24 + p)) (dni s) = (true, wkE hd (O (f * 24 + p)) (Q (f * 24 + p)) (dni s)) := (if_neg c1).trans ((if_neg c2).trans (if_pos (by omega)))
      rw [hs] at hg ⊢
      rw [o4] at hg ⊢
      obtain ⟨S1, T1, a1, a2, a3⟩ := p_more (N := N) hN hR.1 (op := O (f * 24 + p)) o3 hnp (by omega)
      obtain ⟨g1, g2, g3, g4⟩ := fin _ S1 T1 a2 a3 (wkE_np _ _ _ _).2.2 hg.2
      refine ⟨S1, T1, ?_, rfl, g1, g2, g3, g4⟩
      rw [if_pos (by omega), bnd_e a1, A_operate_j220_e]
