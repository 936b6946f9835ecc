def srx (S : s_M) (t : List Int) : Prop := S 0 2 = (t.length : Int) ∧ t.length ≤ 320 ∧ ∀ i : Int, 0 ≤ i → i < (t.length : Int) → S 2 i = tg t i ∧ (tg t i = 10 ∨ (32 ≤ tg t i ∧ tg t i ≤ 126))
def ctx (S : s_M) (nc : Int) (WC : Int → Int) : Prop := S 0 13 = nc ∧ (0 ≤ nc ∧ nc ≤ 10) ∧ (∀ i : Int, 0 ≤ i → i < nc → S 10 i = WC i ∧ wdk (WC i)) ∧ dst_ WC nc
def lsx (S : s_M) (m : Int) (L : Int → Int) : Prop := S 0 15 = m ∧ (0 ≤ m ∧ m ≤ 8) ∧ (∀ i : Int, 0 ≤ i → i < m → S 11 i = L i) ∧ dst_ L m
/-- the reference's rows and the program's state say the same -/
def cpl (S : s_M) (T : Int → List Int) (s : rnT) (ns : Int) (O Q Z : Int → Int) (t : List Int) (nc m : Int) (WC L : Int → Int) : Prop := CX S T ns m L s ∧ fnk S S O Q Z ∧ srx S t ∧ ctx S nc WC ∧ lsx S m L
theorem fnk.self {S K : s_M} {O Q Z : Int → Int} (h : fnk S K O Q Z) : fnk S S O Q Z := ⟨fun _ _ _ => rfl, h.2⟩
theorem srx.ex {S S' : s_M} {t : List Int} (h : srx S t) (e : ∀ q j : Int, q = 2 ∨ (q = 0 ∧ j = 2) → S' q j = S q j) : srx S' t := ⟨(e 0 2 (by omega)).trans h.1, h.2.1, fun i i0 i1 => ⟨(e 2 i (by omega)).trans (h.2.2 i i0 i1).1, (h.2.2 i i0 i1).2⟩⟩
theorem ctx.ex {S S' : s_M} {nc : Int} {WC : Int → Int} (h : ctx S nc WC) (e : ∀ q j : Int, q = 10 ∨ (q = 0 ∧ j = 13) → S' q j = S q j) : ctx S' nc WC := ⟨(e 0 13 (by omega)).trans h.1, h.2.1, fun i i0 i1 => ⟨(e 10 i (by omega)).trans (h.2.2.1 i i0 i1).1, (h.2.2.1 i i0 i1).2⟩, h.2.2.2⟩
theorem lsx.ex {S S' : s_M} {m : Int} {L : Int → Int} (h : lsx S m L) (e : ∀ q j : Int, q = 11 ∨ (q = 0 ∧ j = 15) → S' q j = S q j) : lsx S' m L := ⟨(e 0 15 (by omega)).trans h.1, h.2.1, fun i i0 i1 => (e 11 i (by omega)).trans (h.2.2.1 i i0 i1), h.2.2.2⟩
theorem cpl.th {S : s_M} {T : Int → List Int} {s : rnT} {ns : Int} {O Q Z : Int → Int} {t : List Int} {nc m : Int} {WC L : Int → Int} (h : cpl S T s ns O Q Z t nc m WC L) (x : Int) : cpl (m_s S 0 0 x) T s ns O Q Z t nc m WC L := by
  obtain ⟨a1, a2, a3, a4, a5⟩ := h
  exact ⟨a1.ex (fun q j z => m_s_n (by omega)), ⟨fun _ _ _ => rfl, (a2.ex (S' := m_s (m_s S 0 0 x) 0 0 (S 0 0)) (fun q j z => by
    by_cases c : q = 0 ∧ j = 0
    · rw [c.1, c.2, m_s_s]
    · rw [m_s_n c, m_s_n c])).2⟩, a3.ex (fun q j z => m_s_n (by omega)), a4.ex (fun q j z => m_s_n (by omega)), a5.ex (fun q j z => m_s_n (by omega))⟩
theorem m_s_two {S : s_M} {x y : Int} : m_s (m_s S 0 0 x) 0 0 y = m_s S 0 0 y := by
  funext q j
  by_cases c : q = 0 ∧ j = 0
  · rw [c.1, c.2, m_s_s, m_s_s]
  · rw [m_s_n c, m_s_n c, m_s_n c]
/-- what a call of the reference comes to: its code, its value, its rows -/
def oks (r : rO) (code val : Int) (B : s_M → (Int → List Int) → Prop) : Prop := ∃ (v : Int) (S' : s_M) (T' : Int → List Int), r = some (v, S') ∧ S' 0 0 = code ∧ (code = 0 → v = val) ∧ B S' T'
theorem oks.same {S : s_M} {T : Int → List Int} {s : rnT} {ns : Int} {O Q Z : Int → Int} {t : List Int} {nc m : Int} {WC L : Int → Int} (h : cpl S T s ns O Q Z t nc m WC L) {r : rO} {v x val : Int} (e : r = some (v, m_s S 0 0 x)) (hv : x = 0 → v = val) : oks r x val (fun S' T' => cpl S' T' s ns O Q Z t nc m WC L) := ⟨v, _, T, e, m_s_s, hv, h.th x⟩
theorem o_depth {N : Nat} {S : s_M} {T : Int → List Int} {s : rnT} {ns : Int} {O Q Z : Int → Int} {t : List Int} {nc m : Int} {WC L : Int → Int} (h : cpl S T s ns O Q Z t nc m WC L) : oks (A_depth N S) 0 s.1.2.1 (fun S' T' => cpl S' T' s ns O Q Z t nc m WC L) := h.1.1.2.2.1 ▸ oks.same h (A_depth_e N S) (fun _ => rfl)
theorem o_none {N : Nat} {S : s_M} {T : Int → List Int} {s : rnT} {ns : Int} {O Q Z : Int → Int} {t : List Int} {nc m : Int} {WC L : Int → Int} (h : cpl S T s ns O Q Z t nc m WC L) {i : Int} : A_none N i (m_s S 0 0 0) = some (if 0 ≤ i ∧ i < s.1.2.1 then 0 else 1, m_s S 0 0 0) := by
  have hd := h.1.1.2.2.1
  have hr := h.1.1.2.2.2.1
  rw [A_none_e, m_sj (by decide), hd, chk_e (by omega)]
  by_cases c : 0 ≤ i ∧ i < s.1.2.1
  · rw [if_pos c, if_pos (decide_eq_true (by omega))]
  · rw [if_neg c, if_neg (fun z => c (by have := of_decide_eq_true z; omega))]
theorem o_kind {N : Nat} {S : s_M} {T : Int → List Int} {s : rnT} {ns : Int} {O Q Z : Int → Int} {t : List Int} {nc m : Int} {WC L : Int → Int} (h : cpl S T s ns O Q Z t nc m WC L) {i : Int} : oks (A_kind N i S) (kyk s.1.2.1 i) (s.1.2.2 (s.1.2.1 - 1 - i)).1 (fun S' T' => cpl S' T' s ns O Q Z t nc m WC L) := by
  have hd := h.1.1.2.2.1
  have hr := h.1.1.2.2.2.1
  unfold kyk
  by_cases c : 0 ≤ i ∧ i < s.1.2.1
  · have hs := h.1.1.2.2.2.2 (s.1.2.1 - 1 - i) (by omega) (by omega)
    rw [if_pos c]
    refine oks.same h (v := S 16 (s.1.2.1 - 1 - i)) ?_ (fun _ => hs.2.1)
    rw [A_kind_e, bnd_e (o_none h), if_pos c, if_pos rfl, m_sj (by decide), hd, chk_e (by omega), chk_e (by omega), chk_e (by omega), A_kind_j34_e, m_sk (by decide)]
  · rw [if_neg c]
    refine oks.same h (v := 0) ?_ (fun z => absurd z (by decide))
    rw [A_kind_e, bnd_e (o_none h), if_neg c, if_neg (by decide), bnd_e (A_fail_e N 1 _), A_kind_j34_e, m_s_two]
theorem o_value {N : Nat} {S : s_M} {T : Int → List Int} {s : rnT} {ns : Int} {O Q Z : Int → Int} {t : List Int} {nc m : Int} {WC L : Int → Int} (h : cpl S T s ns O Q Z t nc m WC L) {i : Int} : oks (A_value N i S) (kyk s.1.2.1 i) (vlv (s.1.2.2 (s.1.2.1 - 1 - i))) (fun S' T' => cpl S' T' s ns O Q Z t nc m WC L) := by
  have hd := h.1.1.2.2.1
  have hr := h.1.1.2.2.2.1
  unfold kyk
  by_cases c : 0 ≤ i ∧ i < s.1.2.1
  · have hs := h.1.1.2.2.2.2 (s.1.2.1 - 1 - i) (by omega) (by omega)
    have ht := h.1.1.1.len (k := 70 + (s.1.2.1 - 1 - i)) (by omega)
    obtain ⟨s1, s2, s3, s4⟩ := hs
    rw [if_pos c]
    have st : A_value N i S = if (s.1.2.2 (s.1.2.1 - 1 - i)).1 = 0 then some (S 17 (s.1.2.1 - 1 - i), m_s S 0 0 0) else if (s.1.2.2 (s.1.2.1 - 1 - i)).1 = 1 then some (S 3 (70 + (s.1.2.1 - 1 - i)), m_s S 0 0 0) else some (0, m_s S 0 0 0) := by
      rw [A_value_e, bnd_e (o_none h), if_pos c, if_pos rfl, m_sj (by decide), hd, chk_e (by omega), chk_e (by omega), chk_e (by omega), m_sk (by decide), s2, chk_e (by omega), chk_e (by omega), chk_e (by omega), chk_e (by omega), A_value_j69_e, A_value_j69_e, A_value_j69_e, m_sk (by decide), m_sk (by decide)]
    rw [st]
    unfold vlv
    by_cases q : (s.1.2.2 (s.1.2.1 - 1 - i)).1 = 0
    · rw [if_pos q]
      exact oks.same h rfl (fun _ => by rw [if_pos q]; exact s3 q)
    · rw [if_neg q]
      by_cases q1 : (s.1.2.2 (s.1.2.1 - 1 - i)).1 = 1
      · rw [if_pos q1]
        exact oks.same h rfl (fun _ => by rw [if_neg q, ht.1, s4 q1])
      · rw [if_neg q1]
        refine oks.same h rfl (fun _ => ?_)
        rw [if_neg q]
        rcases s1 with z | z | z
        · exact absurd z.1 q
        · exact absurd z.1 q1
        · rw [z.2.2]
          rfl
  · rw [if_neg c]
    refine oks.same h (v := 0) ?_ (fun z => absurd z (by decide))
    rw [A_value_e, bnd_e (o_none h), if_neg c, if_neg (by decide), bnd_e (A_fail_e N 1 _), m_s_two]
theorem o_letter {N : Nat} {S : s_M} {T : Int → List Int} {s : rnT} {ns : Int} {O Q Z : Int → Int} {t : List Int} {nc m : Int} {WC L : Int → Int} (h : cpl S T s ns O Q Z t nc m WC L) {i j : Int} : oks (A_letter N i j S) (lek s.1.2.1 s.1.2.2 i j) (tg (s.1.2.2 (s.1.2.1 - 1 - i)).2.2 j) (fun S' T' => cpl S' T' s ns O Q Z t nc m WC L) := by
  have hd := h.1.1.2.2.1
  have hr := h.1.1.2.2.2.1
  unfold lek
  have no : ∀ {r : rO}, r = some (0, m_s S 0 0 1) → oks r 1 (tg (s.1.2.2 (s.1.2.1 - 1 - i)).2.2 j) (fun S' T' => cpl S' T' s ns O Q Z t nc m WC L) := fun e => oks.same h e (fun z => absurd z (by decide))
  have nj : A_letter_j30 N (m_s S 0 0 0) = some (0, m_s S 0 0 1) := by
    rw [A_letter_j30_e, bnd_e (A_fail_e N 1 _), m_s_two]
  by_cases c : 0 ≤ i ∧ i < s.1.2.1
  · have hs := h.1.1.2.2.2.2 (s.1.2.1 - 1 - i) (by omega) (by omega)
    have ht := h.1.1.1.len (k := 70 + (s.1.2.1 - 1 - i)) (by omega)
    have hch := h.1.1.1.ch (k := 70 + (s.1.2.1 - 1 - i)) (i := j) (by omega)
    obtain ⟨s1, s2, s3, s4⟩ := hs
    by_cases q1 : (s.1.2.2 (s.1.2.1 - 1 - i)).1 = 1
    · have e4 := s4 q1
      rw [e4] at ht hch
      have st : A_letter N i j S = if 0 ≤ j ∧ j < ((s.1.2.2 (s.1.2.1 - 1 - i)).2.2.length : Int) then bnd (A_at N (70 + (s.1.2.1 - 1 - i)) j (m_s S 0 0 0)) (fun v48 S49 => A_letter_j78 N v48 S49) else some (0, m_s S 0 0 1) := by
        rw [A_letter_e, bnd_e (o_none h), if_pos c, if_pos rfl, m_sj (by decide), hd, chk_e (by omega), chk_e (by omega), chk_e (by omega), m_sk (by decide), s2, if_pos q1, chk_e (by omega), chk_e (by omega), chk_e (by omega), show 70 + s.1.2.1 - 1 - i = 70 + (s.1.2.1 - 1 - i) by omega, chk_e (by omega), m_sk (by decide), ht.1, chk_e (by omega)]
        by_cases z : 0 ≤ j ∧ j < ((s.1.2.2 (s.1.2.1 - 1 - i)).2.2.length : Int)
        · rw [if_pos z, if_pos (decide_eq_true (by omega))]
        · rw [if_neg z, if_neg (fun y => z (by have := of_decide_eq_true y; omega)), bnd_e (A_fail_e N 1 _), A_letter_j78_e, m_s_two]
      by_cases z : 0 ≤ j ∧ j < ((s.1.2.2 (s.1.2.1 - 1 - i)).2.2.length : Int)
      · rw [st, if_pos z, if_pos ⟨c, z⟩, bnd_e (p_at (by omega) (by omega)), A_letter_j78_e]
        refine oks.same h rfl (fun _ => ?_)
        rw [m_sk (by decide)]
        exact hch z
      · rw [st, if_neg z, if_neg (fun y => z y.2)]
        exact no rfl
    · have e0 : (s.1.2.2 (s.1.2.1 - 1 - i)).2.2 = [] := by
        rcases s1 with z | z | z
        · exact z.2.1
        · exact absurd z.1 q1
        · exact z.2.2
      rw [if_neg (fun y => by have := y.2; rw [e0] at this; exact absurd this (by show ¬ (0 ≤ j ∧ j < ((0 : Nat) : Int)); omega))]
      refine no ?_
      rw [A_letter_e, bnd_e (o_none h), if_pos c, if_pos rfl, m_sj (by decide), hd, chk_e (by omega), chk_e (by omega), chk_e (by omega), m_sk (by decide), s2, if_neg q1, nj]
  · rw [if_neg (fun y => c y.1)]
    refine no ?_
    rw [A_letter_e, bnd_e (o_none h), if_neg c, if_neg (by decide), nj]
theorem o_line {N : Nat} {S : s_M} {T : Int → List Int} {s : rnT} {ns : Int} {O Q Z : Int → Int} {t : List Int} {nc m : Int} {WC L : Int → Int} (h : cpl S T s ns O Q Z t nc m WC L) {i j : Int} : oks (A_line N i j S) (lik s.2.2.1.1 s.2.2.1.2.2 i j) (tg (s.2.2.1.2.2 i) j) (fun S' T' => cpl S' T' s ns O Q Z t nc m WC L) := by
  obtain ⟨p1, p2, p3, p4, p5, p6⟩ := h.1.2.2.2.1
  unfold lik
  have nj : A_line_j23 N (m_s S 0 0 0) = some (0, m_s S 0 0 1) := by
    rw [A_line_j23_e, bnd_e (A_fail_e N 1 _), m_s_two]
  by_cases c : 0 ≤ i ∧ i < s.2.2.1.1 ∧ i < 24
  · obtain ⟨k1, k2, k3⟩ := p6 i c.1 c.2.1 c.2.2
    rw [if_pos c]
    by_cases z : 0 ≤ j ∧ j < ((s.2.2.1.2.2 i).length : Int)
    · rw [if_pos z]
      refine oks.same h (v := S 28 (180 * i + j)) ?_ (fun _ => k3 j z.1 z.2)
      rw [A_line_e, if_pos (decide_eq_true (by omega)), if_pos (by omega), chk_e (by omega), k2, chk_e (by omega), if_pos (decide_eq_true (by omega)), chk_e (by omega), chk_e (by omega), chk_e (by omega), A_line_j65_e]
    · rw [if_neg z]
      refine oks.same h (v := 0) ?_ (fun y => absurd y (by decide))
      rw [A_line_e, if_pos (decide_eq_true (by omega)), if_pos (by omega), chk_e (by omega), k2, chk_e (by omega), if_neg (fun y => z (by have := of_decide_eq_true y; omega)), bnd_e (A_fail_e N 2 _), A_line_j65_e, m_s_two]
  · rw [if_neg c]
    refine oks.same h (v := 0) ?_ (fun y => absurd y (by decide))
    rw [A_line_e]
    by_cases c1 : 0 ≤ i ∧ i ≤ 23
    · rw [if_pos (decide_eq_true c1), if_neg (by omega), nj]
    · rw [if_neg (fun y => c1 (of_decide_eq_true y)), nj]
theorem o_count {N : Nat} {S : s_M} {T : Int → List Int} {s : rnT} {ns : Int} {O Q Z : Int → Int} {t : List Int} {nc m : Int} {WC L : Int → Int} (h : cpl S T s ns O Q Z t nc m WC L) {i : Int} : oks (A_count N i S) (cok i) (cov i ns m s.2.2.1.1 (s.2.2.1.2.1.length : Int) nc) (fun S' T' => cpl S' T' s ns O Q Z t nc m WC L) := by
  obtain ⟨p1, p2, p3, p4, p5, p6⟩ := h.1.2.2.2.1
  have e6 := h.1.2.1.1
  have e15 := h.2.2.2.2.1
  have e13 := h.2.2.2.1.1
  unfold cok cov
  by_cases c : 0 ≤ i ∧ i ≤ 4
  · rw [if_pos c]
    refine oks.same h ((A_count_e N i S).trans (if_pos (decide_eq_true c))) (fun _ => ?_)
    rw [e6, e15, p1, p3, e13]
  · rw [if_neg c]
    refine oks.same h (v := 0) ?_ (fun y => absurd y (by decide))
    rw [A_count_e, if_neg (fun y => c (of_decide_eq_true y)), bnd_e (A_fail_e N 1 _), m_s_two]
theorem o_warnings {N : Nat} {S : s_M} {T : Int → List Int} {s : rnT} {ns : Int} {O Q Z : Int → Int} {t : List Int} {nc m : Int} {WC L : Int → Int} (h : cpl S T s ns O Q Z t nc m WC L) {i : Int} : oks (A_warnings N i S) (wak i) (wi32 (s.1.1 i)) (fun S' T' => cpl S' T' s ns O Q Z t nc m WC L) := by
  have hw := h.1.1.2.1
  unfold wak
  by_cases c : 1 ≤ i ∧ i ≤ 9
  · rw [if_pos c]
    refine oks.same h (v := S 1 i) ?_ (fun _ => hw i (by omega) (by omega))
    rw [A_warnings_e, if_pos (decide_eq_true c), chk_e (by omega), A_warnings_j29_e]
  · rw [if_neg c]
    refine oks.same h (v := 0) ?_ (fun y => absurd y (by decide))
    rw [A_warnings_e, if_neg (fun y => c (of_decide_eq_true y)), bnd_e (A_fail_e N 1 _), A_warnings_j29_e, m_s_two]
theorem o_key {N : Nat} {S : s_M} {T : Int → List Int} {s : rnT} {ns : Int} {O Q Z : Int → Int} {t : List Int} {nc m : Int} {WC L : Int → Int} (h : cpl S T s ns O Q Z t nc m WC L) {i : Int} : oks (A_key N i S) (kyk m i) (s.2.1.2 (L i)).1.1 (fun S' T' => cpl S' T' s ns O Q Z t nc m WC L) := by
  obtain ⟨l1, l2, l3, l4⟩ := h.2.2.2.2
  have hns := h.1.2.1.len
  unfold kyk
  by_cases c : 0 ≤ i ∧ i < m
  · have hl := (h.1.2.2.2.2 i c.1 c.2).1
    have he := h.1.2.1.2.2.1 (L i) hl.1 hl.2
    rw [if_pos c]
    refine oks.same h (v := S 5 (L i)) ?_ (fun _ => he.1)
    rw [A_key_e, l1, chk_e (by omega), if_pos (decide_eq_true (by omega)), chk_e (by omega), l3 i c.1 c.2, chk_e (by omega), A_key_j39_e]
  · rw [if_neg c]
    refine oks.same h (v := 0) ?_ (fun y => absurd y (by decide))
    rw [A_key_e, l1, chk_e (by omega), if_neg (fun y => c (by have := of_decide_eq_true y; omega)), bnd_e (A_fail_e N 1 _), A_key_j39_e, m_s_two]
theorem o_field {N : Nat} (hN : 100 ≤ N) {S : s_M} {T : Int → List Int} {s : rnT} {ns : Int} {O Q Z : Int → Int} {t : List Int} {nc m : Int} {WC L : Int → Int} (h : cpl S T s ns O Q Z t nc m WC L) {i x j : Int} : oks (A_field N i x j S) (fik s.2.1.2 ns m L i (wof (u64 x)) j) (fiv s.2.1.2 ns L i (wof (u64 x)) j) (fun S' T' => cpl S' T' s ns O Q Z t nc m WC L) := by
  obtain ⟨l1, l2, l3, l4⟩ := h.2.2.2.2
  have hns := h.1.2.1.len
  have hm := mwof_rng (u64 x)
  unfold fik fiv
  by_cases c : 0 ≤ i ∧ i < m
  · have hl := (h.1.2.2.2.2 i c.1 c.2).1
    have h0 := (h.th 0).1
    have hf := p_fieldOf (N := N) hN (T := T) (v := wof (u64 x)) (w := mwof (u64 x)) h0.1.1 h0.2.1 (j := L i) hl (by
      by_cases c : wof (u64 x) = 0
      · exact Or.inr ⟨c, mw_no c⟩
      · exact Or.inl ⟨(mw_yes c).symm, c⟩)
    have hv : ∀ r : rO, (chk (rI (m - 1)) <| if decide (0 ≤ i ∧ i ≤ m - 1) = true then (chk (0 ≤ i ∧ i < 8) <| chk (rL (mwof (u64 x))) <| r) else none) = r := fun r => by
      rw [chk_e (by omega), if_pos (decide_eq_true (by omega)), chk_e (by omega), chk_e ⟨by omega, by omega⟩]
    rw [if_pos c, A_field_e, l1, chk_e (by omega), if_pos (decide_eq_true (by omega)), chk_e (by omega), chk_e ⟨by omega, by omega⟩, l3 i c.1 c.2, bnd_e hf]
    unfold foR
    by_cases c1 : (fo s.2.1.2 ns (L i) (wof (u64 x))).2 < 0
    · rw [if_pos c1, if_pos c1, if_pos (by decide), bnd_e (A_fail_e N 2 _), m_s_two]
      exact oks.same h rfl (fun y => absurd y (by decide))
    · rw [if_neg c1, if_neg c1]
      obtain ⟨d1, d2⟩ := fo_in h.1.2.1 (j := L i) (v := wof (u64 x)) hl (by omega)
      have hen := h.1.2.1.2.2.1 _ d1.1 d1.2
      have hen2 := hen.2.2.2.1
      obtain ⟨e1, e2, e3, e4⟩ := hen.2.2.2.2.1 _ (by omega) d2
      have ht := h0.1.1.len (k := 6 * (fo s.2.1.2 ns (L i) (wof (u64 x))).1 + (fo s.2.1.2 ns (L i) (wof (u64 x))).2) (by omega)
      have hch := h0.1.1.ch (k := 6 * (fo s.2.1.2 ns (L i) (wof (u64 x))).1 + (fo s.2.1.2 ns (L i) (wof (u64 x))).2) (i := j) (by omega)
      rw [e2] at ht hch
      rw [if_neg (by omega), chk_e (by omega), ht.1, chk_e (by omega)]
      by_cases z : 0 ≤ j ∧ j < (((s.2.1.2 (fo s.2.1.2 ns (L i) (wof (u64 x))).1).2.2.1 (fo s.2.1.2 ns (L i) (wof (u64 x))).2).length : Int)
      · rw [if_pos z, if_pos (decide_eq_true (by omega)), bnd_e (p_at (by omega) (by omega)), A_field_j86_e]
        exact oks.same h rfl (fun _ => hch z)
      · rw [if_neg z, if_neg (fun y => z (by have := of_decide_eq_true y; omega)), bnd_e (A_fail_e N 1 _), A_field_j86_e, m_s_two]
        exact oks.same h rfl (fun y => absurd y (by decide))
  · rw [if_neg c]
    refine oks.same h (v := 0) ?_ (fun y => absurd y (by decide))
    rw [A_field_e, l1, chk_e (by omega), if_neg (fun y => c (by have := of_decide_eq_true y; omega)), bnd_e (A_fail_e N 1 _), m_s_two]
