/-- the first character of a kind, or y -/
def fwc (p : Int → Bool) (t : List Int) : Nat → Int → Int → Int
  | 0, _, y => y
  | m + 1, i, y => if p (tg t i) = true then tg t i else fwc p t m (i + 1) y
theorem fwc_snoc {p : Int → Bool} {t : List Int} : ∀ (m : Nat) (i y : Int), fwc p t (m + 1) i y = fwc p t m i (if p (tg t (i + m)) = true then tg t (i + m) else y)
  | 0, i, y => by
    show (if p (tg t i) = true then tg t i else y) = if p (tg t (i + ((0 : Nat) : Int))) = true then tg t (i + ((0 : Nat) : Int)) else y
    rw [show i + ((0 : Nat) : Int) = i by omega]
  | m + 1, i, y => by
    show (if p (tg t i) = true then tg t i else fwc p t (m + 1) (i + 1) y) = (if p (tg t i) = true then tg t i else fwc p t m (i + 1) _)
    rw [fwc_snoc m (i + 1) y, show i + 1 + (m : Int) = i + ((m + 1 : Nat) : Int) by omega]
def nbr (c : Int) : Bool := !p_brc c
theorem ipl_in {t : List Int} : ∀ (m : Nat) (i c : Int), ipl t m i c = c ∨ (i ≤ ipl t m i c ∧ ipl t m i c < i + m)
  | 0, i, c => Or.inl rfl
  | m + 1, i, c => by
    have e : ipl t (m + 1) i c = if p_let (tg t i) = true then i else ipl t m (i + 1) (if c < 0 ∧ p_brc (tg t i) = false then i else c) := rfl
    rw [e]
    split
    · exact Or.inr (by omega)
    · have := ipl_in (t := t) m (i + 1) (if c < 0 ∧ p_brc (tg t i) = false then i else c)
      split at this
      · rename_i q
        rw [if_pos q]
        omega
      · rename_i q
        rw [if_neg q]
        omega
theorem ipl_fwc {t : List Int} : ∀ (m : Nat) (i c : Int), 0 ≤ i → (if 0 ≤ ipl t m i c then tg t (ipl t m i c) else -1) = fwc p_let t m i (if 0 ≤ c then tg t c else fwc nbr t m i (-1))
  | 0, i, c, h => rfl
  | m + 1, i, c, h => by
    have e : ipl t (m + 1) i c = if p_let (tg t i) = true then i else ipl t m (i + 1) (if c < 0 ∧ p_brc (tg t i) = false then i else c) := rfl
    have e2 : ∀ y, fwc p_let t (m + 1) i y = if p_let (tg t i) = true then tg t i else fwc p_let t m (i + 1) y := fun y => rfl
    have e3 : fwc nbr t (m + 1) i (-1) = if nbr (tg t i) = true then tg t i else fwc nbr t m (i + 1) (-1) := rfl
    rw [e, e2]
    by_cases c1 : p_let (tg t i) = true
    · rw [if_pos c1, if_pos c1, if_pos h]
    · rw [if_neg c1, if_neg c1, ipl_fwc m (i + 1) _ (by omega)]
      congr 1
      by_cases c2 : 0 ≤ c
      · rw [if_neg (show ¬ (c < 0 ∧ p_brc (tg t i) = false) from fun z => by omega), if_pos c2, if_pos c2]
      · rw [if_neg c2, e3]
        cases q : p_brc (tg t i) with
        | false =>
          rw [if_pos (show c < 0 ∧ false = false from ⟨by omega, rfl⟩), if_pos h, if_pos (show nbr (tg t i) = true by unfold nbr; rw [q]; rfl)]
        | true =>
          rw [if_neg (show ¬ (c < 0 ∧ true = false) from fun z => Bool.noConfusion z.2), if_neg c2, if_neg (show ¬ nbr (tg t i) = true by unfold nbr; rw [q]; decide)]
def ifi (N : Nat) (y : Int) (S : s_M) : rO := if y < 0 then A_initial_j124 N S else bnd (A_add N 84 y S) fun _ S18 => A_initial_j124 N S18
theorem p_ini2 {N : Nat} {S : s_M} {T : Int → List Int} (h : TX S T) {w b : Int} (hw : 0 ≤ w ∧ w < 40) (hb : S 22 w = b ∧ 0 ≤ b) : ∀ (m n : Nat) (y : Int), b + m ≤ ((T 82).length : Int) → m < n → A_initial_l72 N n w y (b + m - 1) S = ifi N (fwc p_let (T 82) m b y) S
  | m, 0, y, h1, h2 => absurd h2 (Nat.not_lt_zero _)
  | 0, n + 1, y, h1, h2 => by
    rw [A_initial_l72_e, chk_e hw, if_pos (by omega)]
    rfl
  | m + 1, n + 1, y, h1, h2 => by
    have hl := h.len (k := 82) (by decide)
    have ha := p_att (N := N) h (t := 82) (k := b + m) (by decide) (by omega)
    have hr := fun y => p_ini2 (N := N) h hw hb m n y (by omega) (by omega)
    rw [fwc_snoc, ← hr, A_initial_l72_e, chk_e hw, if_neg (by omega), show b + ((m + 1 : Nat) : Int) - 1 = b + m by omega, bnd_e ha]
    by_cases c : p_let (tg (T 82) (b + m)) = true
    · rw [if_pos c, if_pos c, bnd_e ha, A_initial_j106_e, chk_e (by omega)]
      rfl
    · rw [if_neg c, if_neg c, A_initial_j106_e, chk_e (by omega)]
      rfl
theorem p_ini1 {N : Nat} {S : s_M} {T : Int → List Int} (h : TX S T) {w b e : Int} (hw : 0 ≤ w ∧ w < 40) (hb : S 22 w = b ∧ 0 ≤ b) (he : S 23 w = e ∧ 0 ≤ e ∧ e ≤ 60) : ∀ (m n : Nat) (y : Int), b + m ≤ ((T 82).length : Int) → m < n → A_initial_l11 N n w y (b + m - 1) S = A_initial_l72 N N w (fwc nbr (T 82) m b y) (e - 1) S
  | m, 0, y, h1, h2 => absurd h2 (Nat.not_lt_zero _)
  | 0, n + 1, y, h1, h2 => by
    rw [A_initial_l11_e, chk_e hw, if_pos (by omega), chk_e hw, chk_e (by omega), he.1]
    rfl
  | m + 1, n + 1, y, h1, h2 => by
    have hl := h.len (k := 82) (by decide)
    have ha := p_att (N := N) h (t := 82) (k := b + m) (by decide) (by omega)
    have hr := fun y => p_ini1 (N := N) h hw hb he m n y (by omega) (by omega)
    rw [fwc_snoc, ← hr, A_initial_l11_e, chk_e hw, if_neg (by omega), show b + ((m + 1 : Nat) : Int) - 1 = b + m by omega, bnd_e ha]
    have hn : nbr (tg (T 82) (b + m)) = true ↔ ¬ (tg (T 82) (b + m) = 123 ∨ tg (T 82) (b + m) = 125) := by
      unfold nbr p_brc
      rw [Bool.not_eq_true', decide_eq_false_iff_not]
    by_cases c : tg (T 82) (b + m) = 123
    · rw [if_pos c, if_neg (fun z => hn.mp z (Or.inl c)), A_initial_j55_e, A_initial_j56_e, chk_e (by omega)]
      rfl
    · rw [if_neg c, bnd_e ha]
      by_cases c2 : tg (T 82) (b + m) = 125
      · rw [if_pos c2, if_neg (fun z => hn.mp z (Or.inr c2)), A_initial_j55_e, A_initial_j56_e, chk_e (by omega)]
        rfl
      · rw [if_neg c2, bnd_e ha, if_pos (hn.mpr (by omega)), A_initial_j56_e, chk_e (by omega)]
        rfl
theorem p_initial {N : Nat} (hN : 100 ≤ N) {S : s_M} {T : Int → List Int} (h : TX S T) (hp : prt (T 82)) {w b e : Int} (hw : 0 ≤ w ∧ w < 40) (hb : S 22 w = b) (he : S 23 w = e) (hbe : 0 ≤ b ∧ b < e ∧ e ≤ ((T 82).length : Int)) : ∃ S', A_initial N w S = some (0, S') ∧ TX S' (lset T 84 (ta 60 (if 0 ≤ ipl (T 82) (e - b).toNat b (-1) then ta 60 (T 84) (tg (T 82) (ipl (T 82) (e - b).toNat b (-1))) else T 84) 46)) ∧ exT S S' := by
  have hl := h.len (k := 82) (by decide)
  have e1 := p_ini1 (N := N) h hw ⟨hb, hbe.1⟩ (e := e) ⟨he, by omega, by omega⟩ (e - b).toNat N (-1) (by omega) (by omega)
  have e2 := p_ini2 (N := N) h hw ⟨hb, hbe.1⟩ (e - b).toNat N (fwc nbr (T 82) (e - b).toNat b (-1)) (by omega) (by omega)
  have e3 := ipl_fwc (t := T 82) (e - b).toNat b (-1) hbe.1
  rw [if_neg (show ¬ (0 : Int) ≤ -1 by decide)] at e3
  rw [show b + (((e - b).toNat : Nat) : Int) - 1 = e - 1 by omega] at e1 e2
  rw [← e3] at e2
  have hin := ipl_in (t := T 82) (e - b).toNat b (-1)
  have st : A_initial N w S = ifi N (if 0 ≤ ipl (T 82) (e - b).toNat b (-1) then tg (T 82) (ipl (T 82) (e - b).toNat b (-1)) else -1) S := by
    rw [A_initial_e, chk_e hw, he, chk_e (by omega), e1, e2]
  rw [st]
  unfold ifi
  by_cases c : 0 ≤ ipl (T 82) (e - b).toNat b (-1)
  · have hc := hp (ipl (T 82) (e - b).toNat b (-1)) c (by omega)
    rw [if_pos c, if_pos c, if_neg (by omega)]
    obtain ⟨S1, a1, a2, a3⟩ := p_add (N := N) h (t := 84) (c := tg (T 82) (ipl (T 82) (e - b).toNat b (-1))) (by decide)
    obtain ⟨S2, b1, b2, b3⟩ := p_add (N := N) a2 (t := 84) (c := 46) (by decide)
    rw [lset_lset, lset_at] at b2
    exact ⟨S2, by rw [bnd_e a1, A_initial_j124_e, bnd_e b1], b2, a3.trans b3⟩
  · rw [if_neg c, if_neg c, if_pos (by decide)]
    obtain ⟨S2, b1, b2, b3⟩ := p_add (N := N) h (t := 84) (c := 46) (by decide)
    exact ⟨S2, by rw [A_initial_j124_e, bnd_e b1], b2, b3⟩
/-- texts and the mark that something stands there -/
def exG (S S' : s_M) : Prop := ∀ q j : Int, q ≠ 3 → q ≠ 4 → ¬ (q = 0 ∧ j = 43) → S' q j = S q j
theorem exG.refl (S : s_M) : exG S S := fun _ _ _ _ _ => rfl
theorem exG.trans {A B C : s_M} (h1 : exG A B) (h2 : exG B C) : exG A C := fun q j a b c => (h2 q j a b c).trans (h1 q j a b c)
theorem exT.exG {S S' : s_M} (h : exT S S') : exG S S' := fun q j a b _ => h q j a b
theorem exG.put {S : s_M} {x : Int} : exG S (m_s S 0 43 x) := fun q j _ _ z => m_s_n z
theorem p_l92 {N : Nat} {k6 : Int → Int → Int → Int → Int → s_M → rO} {t : List Int} {x1 x2 x4 w e : Int} (hw : 0 ≤ w ∧ w < 40) (he : e ≤ (t.length : Int)) (h60 : t.length ≤ 60) : ∀ (m n : Nat) (i : Int) (S : s_M) (T : Int → List Int), TX S T → T 82 = t → S 23 w = e → 0 ≤ i → i + m = e → m < n → ∃ S', A_group_l92 N k6 n x1 x2 0 x4 w i S = A_group_j128 N k6 x1 x2 0 x4 w S' ∧ TX S' (lset T 84 (it (jst t) m i (T 84))) ∧ exT S S'
  | m, 0, i, S, T, h, ht, h23, h0, h1, h2 => absurd h2 (Nat.not_lt_zero _)
  | 0, n + 1, i, S, T, h, ht, h23, h0, h1, h2 => ⟨S, by rw [A_group_l92_e, chk_e hw, if_neg (by omega)], by
      show TX S (lset T 84 (T 84))
      rw [lset_self]
      exact h, exT.refl S⟩
  | m + 1, n + 1, i, S, T, h, ht, h23, h0, h1, h2 => by
    have ha := p_att (N := N) h (t := 82) (k := i) (by decide) (by rw [ht]; omega)
    rw [ht] at ha
    obtain ⟨S1, a1, a2, a3⟩ := p_add (N := N) h (t := 84) (c := tg t i) (by decide)
    obtain ⟨S2, b1, b2, b3⟩ := p_l92 (N := N) (k6 := k6) (x1 := x1) (x2 := x2) (x4 := x4) hw he h60 m n (i + 1) S1 _ a2 (by rw [lset_ne (by decide)]; exact ht) ((a3 23 w (by decide) (by decide)).trans h23) (by omega) (by omega) (by omega)
    rw [lset_lset, lset_at] at b2
    refine ⟨S2, ?_, b2, a3.trans b3⟩
    rw [A_group_l92_e, chk_e hw, if_pos (by omega), if_pos rfl, bnd_e ha, bnd_e a1, chk_e (by omega)]
    exact b1
/-- one word, whole or its initial -/
def wpt (t : List Int) (B N : Int → Int) (ini : Bool) (i : Int) (u : List Int) : List Int := if ini = true then ain t B N i u else aws t B N i u
theorem ta_pos {x : List Int} {c : Int} : 0 < (ta 60 x c).length := by
  unfold ta
  split
  · rw [List.length_append]
    exact Nat.succ_pos _
  · omega
theorem aws_jst {t : List Int} {B N : Int → Int} {i : Int} {u : List Int} (hb : 0 ≤ B i ∧ B i < N i ∧ N i ≤ (t.length : Int)) (hu : u.length ≤ 60) : aws t B N i u = it (jst t) (N i - B i).toNat (B i) (spc u) := by
  have hs : (spc u).length ≤ 60 := by
    unfold spc
    split
    · exact ta_le60 hu
    · exact hu
  rw [jst_it2 _ _ _ hb.1 (by omega) hs]
  unfold aws
  rw [show max (B i) 0 = B i by omega, show min (N i) (t.length : Int) = N i by omega, show (((N i - B i).toNat : Nat) : Int) = N i - B i by omega]
  rfl
theorem wpt_pos {t : List Int} {B N : Int → Int} {ini : Bool} {i : Int} {u : List Int} (hb : 0 ≤ B i ∧ B i < N i ∧ N i ≤ (t.length : Int)) : 0 < (wpt t B N ini i u).length := by
  unfold wpt
  split
  · exact ta_pos
  · unfold aws
    rw [List.length_append]
    by_cases c : 0 < (spc u).length
    · omega
    · rw [show max (B i) 0 = B i by omega, show min (N i) (t.length : Int) = N i by omega, sl_len hb.1 (by omega)]
      omega
theorem p_word {N : Nat} (hN : 100 ≤ N) {k6 : Int → Int → Int → Int → Int → s_M → rO} {S : s_M} {T : Int → List Int} (h : TX S T) (hp : prt (T 82)) {B Nn : Int → Int} {x1 x2 w : Int} (ini : Bool) (hw : 0 ≤ w ∧ w < 40) (hb : S 22 w = B w) (he : S 23 w = Nn w) (hbe : 0 ≤ B w ∧ B w < Nn w ∧ Nn w ≤ ((T 82).length : Int)) (h43 : S 0 43 = s_b (decide (0 < (T 84).length))) : ∃ S', A_group_j50 N k6 x1 x2 (s_b ini) w S = k6 x1 x2 (s_b ini) 1 (w + 1) S' ∧ TX S' (lset T 84 (wpt (T 82) B Nn ini w (T 84))) ∧ S' 0 43 = 1 ∧ exG S S' := by
  have hl := h.len (k := 82) (by decide)
  have hl4 := h.len (k := 84) (by decide)
  -- the blank before it
  have s1 : ∃ S1, A_group_j50 N k6 x1 x2 (s_b ini) w S = A_group_j65 N k6 x1 x2 (s_b ini) w S1 ∧ TX S1 (lset T 84 (spc (T 84))) ∧ exG S S1 := by
    by_cases c : 0 < (T 84).length
    · rw [decide_eq_true c] at h43
      obtain ⟨S1, a1, a2, a3⟩ := p_add (N := N) h (t := 84) (c := 32) (by decide)
      refine ⟨S1, ?_, ?_, a3.exG⟩
      · rw [A_group_j50_e, h43, if_neg (by decide), bnd_e a1]
      · rw [show spc (T 84) = ta 60 (T 84) 32 from if_pos c]
        exact a2
    · rw [decide_eq_false c] at h43
      refine ⟨S, ?_, ?_, exG.refl S⟩
      · rw [A_group_j50_e, h43, if_pos (by decide)]
      · rw [show spc (T 84) = T 84 from if_neg c, lset_self]
        exact h
  obtain ⟨S1, a1, a2, a3⟩ := s1
  have a2' : TX (m_s S1 0 43 1) (lset T 84 (spc (T 84))) := a2.ex (fun q j z => m_sk (by omega))
  have h22 : (m_s S1 0 43 1) 22 w = B w := by rw [m_sk (by decide), a3 22 w (by decide) (by decide) (by omega)]; exact hb
  have h23 : (m_s S1 0 43 1) 23 w = Nn w := by rw [m_sk (by decide), a3 23 w (by decide) (by decide) (by omega)]; exact he
  have hT82 : lset T 84 (spc (T 84)) 82 = T 82 := lset_ne (by decide)
  rw [a1, A_group_j65_e]
  cases ini with
  | false =>
    obtain ⟨S2, b1, b2, b3⟩ := p_l92 (N := N) (k6 := k6) (t := T 82) (x1 := x1) (x2 := x2) (x4 := 1) (w := w) (e := Nn w) hw hbe.2.2 hl.2 (Nn w - B w).toNat N (B w) _ _ a2' hT82 h23 hbe.1 (by omega) (by omega)
    rw [lset_lset, lset_at, ← aws_jst hbe hl4.2] at b2
    refine ⟨S2, ?_, b2, (b3 0 43 (by decide) (by decide)).trans m_s_s, (a3.trans exG.put).trans b3.exG⟩
    rw [if_pos (by decide), A_group_j83_e, chk_e hw, h22, show s_b false = (0 : Int) from rfl, b1, A_group_j128_e, chk_e (by omega)]
  | true =>
    obtain ⟨S2, b1, b2, b3⟩ := p_initial (N := N) hN a2' (by rw [hT82]; exact hp) hw h22 h23 (by rw [hT82]; exact hbe)
    rw [lset_lset, lset_at, hT82] at b2
    refine ⟨S2, ?_, b2, (b3 0 43 (by decide) (by decide)).trans m_s_s, (a3.trans exG.put).trans b3.exG⟩
    have e92 : ∀ i, A_group_l92 N k6 N x1 x2 (s_b true) 1 w i S2 = A_group_j128 N k6 x1 x2 (s_b true) 1 w S2 := fun i => by
      rw [show N = (N - 1) + 1 by omega, A_group_l92_e, chk_e hw]
      split
      · rw [if_neg (by decide)]
      · rfl
    rw [if_neg (by decide), bnd_e b1, A_group_j83_e, chk_e hw, e92, A_group_j128_e, chk_e (by omega)]
/-- words from b on, below e, each put behind the text -/
def wds (t : List Int) (B N : Int → Int) (ini : Bool) (b e : Int) (u : List Int) : List Int := it (wpt t B N ini) (e - b).toNat b u
def rgw (S : s_M) (W len r b e : Int) (B N : Int → Int) : Prop := (S 0 37 = W ∧ 0 ≤ W ∧ W ≤ 31) ∧ (∀ j : Int, 0 ≤ j → j < W → S 22 j = B j ∧ S 23 j = N j ∧ (0 ≤ B j ∧ B j < N j ∧ N j ≤ len)) ∧ (∀ j : Int, 0 ≤ j → j < W → (S 25 j = r ↔ b ≤ j ∧ j < e)) ∧ 0 ≤ b ∧ e ≤ W
theorem rgw.ex {S S' : s_M} {W len r b e : Int} {B N : Int → Int} (h : rgw S W len r b e B N) (x : exG S S') : rgw S' W len r b e B N := by
  obtain ⟨a1, a2, a3, a4⟩ := h
  refine ⟨⟨(x 0 37 (by decide) (by decide) (by omega)).trans a1.1, a1.2⟩, fun j j0 j1 => ?_, fun j j0 j1 => ?_, a4⟩
  · obtain ⟨b1, b2, b3⟩ := a2 j j0 j1
    exact ⟨(x 22 j (by decide) (by decide) (by omega)).trans b1, (x 23 j (by decide) (by decide) (by omega)).trans b2, b3⟩
  · rw [x 25 j (by decide) (by decide) (by omega)]
    exact a3 j j0 j1
theorem p_grp2 {N : Nat} (hN : 100 ≤ N) {t : List Int} (hp : prt t) {B Nn : Int → Int} {W r b e cm : Int} (ini : Bool) : ∀ (m n : Nat) (k : Int) (S : s_M) (T : Int → List Int), TX S T → T 82 = t → rgw S W (t.length : Int) r b e B Nn → S 0 43 = 1 → 0 < (T 84).length → 0 ≤ k → b ≤ k → k + m = W → m < n → ∃ S', A_group_l6 N n r cm (s_b ini) 1 k S = some (0, S') ∧ TX S' (lset T 84 (wds t B Nn ini k e (T 84))) ∧ S' 0 43 = 1 ∧ 0 < (wds t B Nn ini k e (T 84)).length ∧ exG S S'
  | m, 0, k, S, T, h, ht, hg, h43, hu, h0, hbk, h1, h2 => absurd h2 (Nat.not_lt_zero _)
  | 0, n + 1, k, S, T, h, ht, hg, h43, hu, h0, hbk, h1, h2 => by
    obtain ⟨g1, g2, g3, g4, g5⟩ := hg
    have hz : wds t B Nn ini k e (T 84) = T 84 := by
      unfold wds
      rw [show (e - k).toNat = 0 by omega]
      rfl
    rw [hz, lset_self]
    exact ⟨S, by rw [A_group_l6_e, if_neg (by omega)], h, h43, hu, exG.refl S⟩
  | m + 1, n + 1, k, S, T, h, ht, hg, h43, hu, h0, hbk, h1, h2 => by
    have hg' := hg
    obtain ⟨g1, g2, g3, g4, g5⟩ := hg
    obtain ⟨w1, w2, w3⟩ := g2 k h0 (by omega)
    by_cases c : k < e
    · have hrole := (g3 k h0 (by omega)).mpr ⟨hbk, c⟩
      obtain ⟨S1, a1, a2, a3, a4⟩ := p_word (N := N) hN (k6 := A_group_l6 N n) (x1 := r) (x2 := cm) h (by rw [ht]; exact hp) ini (w := k) (by omega) w1 w2 (by rw [ht]; exact w3) (by rw [h43, decide_eq_true hu]; rfl)
      rw [ht] at a2
      obtain ⟨S2, b1, b2, b3, b4, b5⟩ := p_grp2 (N := N) hN hp (B := B) (Nn := Nn) (W := W) (r := r) (b := b) (e := e) (cm := cm) ini m n (k + 1) S1 _ a2 (by rw [lset_ne (by decide)]; exact ht) (hg'.ex a4) a3 (by rw [lset_at]; exact wpt_pos w3) (by omega) (by omega) (by omega) (by omega)
      rw [lset_lset, lset_at] at b2
      rw [lset_at] at b4
      have hs : wds t B Nn ini k e (T 84) = wds t B Nn ini (k + 1) e (wpt t B Nn ini k (T 84)) := by
        unfold wds
        rw [it_step (wpt t B Nn ini) c]
      rw [hs]
      refine ⟨S2, ?_, b2, b3, b4, a4.trans b5⟩
      rw [A_group_l6_e, if_pos (by omega), chk_e (by omega), if_pos hrole, h43, if_neg (by decide), if_neg (by decide), a1]
      exact b1
    · have hrole : ¬ S 25 k = r := fun z => c ((g3 k h0 (by omega)).mp z).2
      obtain ⟨S2, b1, b2, b3, b4, b5⟩ := p_grp2 (N := N) hN hp (B := B) (Nn := Nn) (W := W) (r := r) (b := b) (e := e) (cm := cm) ini m n (k + 1) S T h ht hg' h43 hu (by omega) (by omega) (by omega) (by omega)
      have hs : wds t B Nn ini k e (T 84) = wds t B Nn ini (k + 1) e (T 84) := by
        unfold wds
        rw [show (e - k).toNat = 0 by omega, show (e - (k + 1)).toNat = 0 by omega]
        rfl
      rw [hs]
      refine ⟨S2, ?_, b2, b3, b4, b5⟩
      rw [A_group_l6_e, if_pos (by omega), chk_e (by omega), if_neg hrole, A_group_j128_e, chk_e (by omega)]
      exact b1
def cma (cm : Bool) (b e : Int) (u : List Int) : List Int := if cm = true then acm b e u else u
theorem p_grp1 {N : Nat} (hN : 100 ≤ N) {t : List Int} (hp : prt t) {B Nn : Int → Int} {W r b e : Int} (cm ini : Bool) : ∀ (m n : Nat) (k : Int) (S : s_M) (T : Int → List Int), TX S T → T 82 = t → rgw S W (t.length : Int) r b e B Nn → S 0 43 = s_b (decide (0 < (T 84).length)) → 0 ≤ k → k ≤ b ∨ e ≤ b → k + m = W → m < n → ∃ S', A_group_l6 N n r (s_b cm) (s_b ini) 0 k S = some (0, S') ∧ TX S' (lset T 84 (wds t B Nn ini b e (cma cm b e (T 84)))) ∧ S' 0 43 = s_b (decide (0 < (wds t B Nn ini b e (cma cm b e (T 84))).length)) ∧ exG S S'
  | m, 0, k, S, T, h, ht, hg, h43, h0, hbk, h1, h2 => absurd h2 (Nat.not_lt_zero _)
  | 0, n + 1, k, S, T, h, ht, hg, h43, h0, hbk, h1, h2 => by
    obtain ⟨g1, g2, g3, g4, g5⟩ := hg
    have hz : wds t B Nn ini b e (cma cm b e (T 84)) = T 84 := by
      unfold wds cma acm
      rw [show (e - b).toNat = 0 by omega, if_neg (show ¬ (b < e ∧ 0 < (T 84).length) by omega)]
      show (if cm = true then T 84 else T 84) = T 84
      split <;> rfl
    rw [hz, lset_self]
    exact ⟨S, by rw [A_group_l6_e, if_neg (by omega)], h, h43, exG.refl S⟩
  | m + 1, n + 1, k, S, T, h, ht, hg, h43, h0, hbk, h1, h2 => by
    have hg' := hg
    obtain ⟨g1, g2, g3, g4, g5⟩ := hg
    obtain ⟨w1, w2, w3⟩ := g2 k h0 (by omega)
    by_cases c : b ≤ k ∧ k < e
    · have ek : k = b := by omega
      have hrole := (g3 k h0 (by omega)).mpr c
      -- the comma before it
      have s1 : ∃ S1, A_group_l6 N (n + 1) r (s_b cm) (s_b ini) 0 k S = A_group_j50 N (A_group_l6 N n) r (s_b cm) (s_b ini) k S1 ∧ TX S1 (lset T 84 (cma cm b e (T 84))) ∧ S1 0 43 = s_b (decide (0 < (cma cm b e (T 84)).length)) ∧ exG S S1 := by
        by_cases q : 0 < (T 84).length
        · rw [decide_eq_true q] at h43
          cases cm with
          | true =>
            obtain ⟨S1, a1, a2, a3⟩ := p_add (N := N) h (t := 84) (c := 44) (by decide)
            have hz : cma true b e (T 84) = ta 60 (T 84) 44 := by
              unfold cma acm
              rw [if_pos rfl, if_pos (by omega)]
            rw [hz]
            refine ⟨S1, ?_, a2, ?_, a3.exG⟩
            · rw [A_group_l6_e, if_pos (by omega), chk_e (by omega), if_pos hrole, h43, if_neg (by decide), if_pos rfl, if_neg (by decide), bnd_e a1]
            · rw [a3 0 43 (by decide) (by decide), h43, decide_eq_true ta_pos]
          | false =>
            have hz : cma false b e (T 84) = T 84 := rfl
            rw [hz, lset_self]
            refine ⟨S, ?_, h, by rw [h43, decide_eq_true q], exG.refl S⟩
            rw [A_group_l6_e, if_pos (by omega), chk_e (by omega), if_pos hrole, h43, if_neg (by decide), if_pos rfl, if_pos (by decide)]
        · have hz : cma cm b e (T 84) = T 84 := by
            unfold cma acm
            rw [if_neg (show ¬ (b < e ∧ 0 < (T 84).length) by omega)]
            split <;> rfl
          rw [hz, lset_self]
          refine ⟨S, ?_, h, h43, exG.refl S⟩
          rw [decide_eq_false q] at h43
          rw [A_group_l6_e, if_pos (by omega), chk_e (by omega), if_pos hrole, h43, if_pos (by decide)]
      obtain ⟨S1, a1, a2, a3, a4⟩ := s1
      have hT82 : lset T 84 (cma cm b e (T 84)) 82 = t := (lset_ne (by decide)).trans ht
      obtain ⟨S2, b1, b2, b3, b4⟩ := p_word (N := N) hN (k6 := A_group_l6 N n) (x1 := r) (x2 := s_b cm) (B := B) (Nn := Nn) a2 (by rw [hT82]; exact hp) ini (w := k) (by omega) ((a4 22 k (by decide) (by decide) (by omega)).trans w1) ((a4 23 k (by decide) (by decide) (by omega)).trans w2) (by rw [hT82]; exact w3) (by rw [lset_at]; exact a3)
      rw [lset_lset, lset_at, hT82] at b2
      obtain ⟨S3, c1, c2, c3, c4, c5⟩ := p_grp2 (N := N) hN hp (B := B) (Nn := Nn) (W := W) (r := r) (b := b) (e := e) (cm := s_b cm) ini m n (k + 1) S2 _ b2 (by rw [lset_ne (by decide)]; exact ht) ((hg'.ex a4).ex b4) b3 (by rw [lset_at]; exact wpt_pos w3) (by omega) (by omega) (by omega) (by omega)
      rw [lset_lset, lset_at] at c2
      rw [lset_at] at c4
      have hs : wds t B Nn ini b e (cma cm b e (T 84)) = wds t B Nn ini (k + 1) e (wpt t B Nn ini k (cma cm b e (T 84))) := by
        unfold wds
        rw [ek, it_step (wpt t B Nn ini) (show b < e by omega)]
      rw [hs]
      refine ⟨S3, ?_, c2, by rw [c3, decide_eq_true c4]; rfl, (a4.trans b4).trans c5⟩
      rw [a1, b1]
      exact c1
    · have hrole : ¬ S 25 k = r := fun z => c ((g3 k h0 (by omega)).mp z)
      obtain ⟨S2, b1, b2, b3, b4⟩ := p_grp1 (N := N) hN hp (B := B) (Nn := Nn) (W := W) (r := r) (b := b) (e := e) cm ini m n (k + 1) S T h ht hg' h43 (by omega) (by omega) (by omega) (by omega)
      refine ⟨S2, ?_, b2, b3, b4⟩
      rw [A_group_l6_e, if_pos (by omega), chk_e (by omega), if_neg hrole, A_group_j128_e, chk_e (by omega)]
      exact b1
theorem p_group {N : Nat} (hN : 100 ≤ N) {S : s_M} {T : Int → List Int} {B Nn : Int → Int} {W r b e : Int} (cm ini : Bool) (h : TX S T) (hp : prt (T 82)) (hg : rgw S W ((T 82).length : Int) r b e B Nn) (h43 : S 0 43 = s_b (decide (0 < (T 84).length))) : ∃ S', A_group N r (s_b cm) (s_b ini) S = some (0, S') ∧ TX S' (lset T 84 (wds (T 82) B Nn ini b e (cma cm b e (T 84)))) ∧ S' 0 43 = s_b (decide (0 < (wds (T 82) B Nn ini b e (cma cm b e (T 84))).length)) ∧ exG S S' := by
  have hw := hg.1
  have hb := hg.2.2.2.1
  rw [A_group_e]
  exact p_grp1 hN hp cm ini W.toNat N 0 S T h rfl hg h43 (by omega) (Or.inl hb) (by omega) (by omega)
