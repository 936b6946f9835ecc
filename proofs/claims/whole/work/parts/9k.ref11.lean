/-- the word 'and' stands at k -/
def isn (t : List Int) (k : Int) : Bool := decide (0 < k) && isand t (k - 1)
theorem isn_z (t : List Int) : isn t 0 = false := rfl
theorem isn_s {t : List Int} {k : Int} (h : 0 ≤ k) : isn t (k + 1) = isand t k := by
  unfold isn
  rw [decide_eq_true (show 0 < k + 1 by omega), Bool.true_and, show k + 1 - 1 = k by omega]
theorem isn_iff {t : List Int} (hp : prt t) {k : Int} : isn t k = true ↔ 0 < k ∧ k + 3 < (t.length : Int) ∧ tg t (k - 1) = 32 ∧ tg t k = 97 ∧ tg t (k + 1) = 110 ∧ tg t (k + 2) = 100 ∧ tg t (k + 3) = 32 := by
  unfold isn isand
  rw [show k - 1 + 1 = k by omega, show k - 1 + 2 = k + 1 by omega, show k - 1 + 3 = k + 2 by omega, show k - 1 + 4 = k + 3 by omega, Bool.and_eq_true, Bool.and_eq_true, Bool.and_eq_true, Bool.and_eq_true, Bool.and_eq_true, decide_eq_true_iff, decide_eq_true_iff, decide_eq_true_iff, decide_eq_true_iff]
  have hb : ∀ j : Int, p_bl (tg t j) = true ↔ 0 ≤ j ∧ j < (t.length : Int) ∧ tg t j = 32 := fun j => by
    unfold p_bl
    rw [decide_eq_true_iff]
    by_cases q : 0 ≤ j ∧ j < (t.length : Int)
    · have := hp j q.1 q.2
      omega
    · have := tg_out (t := t) (i := j) q
      omega
  rw [hb, hb]
  constructor
  · intro ⟨a, ⟨b0, b1, b2⟩, c, d, e, f0, f1, f2⟩
    exact ⟨a, f1, b2, c, d, e, f2⟩
  · intro ⟨a, b, c, d, e, f, g⟩
    exact ⟨a, ⟨by omega, by omega, c⟩, d, e, f, by omega, b, g⟩
theorem isn_end {t : List Int} (hp : prt t) {k : Int} (h : (t.length : Int) ≤ k) : isn t k = false := by
  cases e : isn t k with
  | false => rfl
  | true =>
    have := (isn_iff hp).mp e
    omega
theorem p_isAnd {N : Nat} {S : s_M} {T : Int → List Int} (h : TX S T) (hp : prt (T 82)) {k : Int} (hk : 0 ≤ k ∧ k < ((T 82).length : Int)) : A_isAnd N k S = some (s_b (isn (T 82) k), S) := by
  have hl := h.len (k := 82) (by decide)
  have hi := isn_iff hp (k := k)
  have no : ¬ isn (T 82) k = true → A_isAnd_j97 N 0 S = some (s_b (isn (T 82) k), S) := fun q => by
    rw [A_isAnd_j97_e, chk_e (by decide), show isn (T 82) k = false from Bool.eq_false_iff.mpr q]
    rfl
  by_cases c0 : 0 < k ∧ k + 3 < ((T 82).length : Int)
  · have g0 := p_att (N := N) h (t := 82) (k := k - 1) (by decide) (by omega)
    have g1 := p_att (N := N) h (t := 82) (k := k) (by decide) (by omega)
    have g2 := p_att (N := N) h (t := 82) (k := k + 1) (by decide) (by omega)
    have g3 := p_att (N := N) h (t := 82) (k := k + 2) (by decide) (by omega)
    have g4 := p_att (N := N) h (t := 82) (k := k + 3) (by decide) (by omega)
    rw [A_isAnd_e, if_pos c0.1, chk_e (by omega), if_pos (by omega), A_isAnd_j24_e, if_neg (by decide), chk_e (by omega), bnd_e g0]
    by_cases c1 : tg (T 82) (k - 1) = 32
    · rw [if_pos c1, bnd_e g1]
      by_cases c2 : tg (T 82) k = 97
      · rw [if_pos c2, chk_e (by omega), bnd_e g2]
        by_cases c3 : tg (T 82) (k + 1) = 110
        · rw [if_pos c3, chk_e (by omega), bnd_e g3]
          by_cases c4 : tg (T 82) (k + 2) = 100
          · rw [if_pos c4, chk_e (by omega), bnd_e g4]
            by_cases c5 : tg (T 82) (k + 3) = 32
            · rw [if_pos c5, A_isAnd_j97_e, chk_e (by decide), hi.mpr ⟨c0.1, c0.2, c1, c2, c3, c4, c5⟩]
              rfl
            · rw [if_neg c5, A_isAnd_j96_e, no (fun z => c5 (hi.mp z).2.2.2.2.2.2)]
          · rw [if_neg c4, A_isAnd_j96_e, no (fun z => c4 (hi.mp z).2.2.2.2.2.1)]
        · rw [if_neg c3, A_isAnd_j96_e, no (fun z => c3 (hi.mp z).2.2.2.2.1)]
      · rw [if_neg c2, A_isAnd_j96_e, no (fun z => c2 (hi.mp z).2.2.2.1)]
    · rw [if_neg c1, A_isAnd_j96_e, no (fun z => c1 (hi.mp z).2.2.1)]
  · have hn : A_isAnd_j23 N k 82 S = some (s_b (isn (T 82) k), S) := by
      rw [A_isAnd_j23_e, A_isAnd_j24_e, if_pos rfl, A_isAnd_j96_e]
      exact no (fun z => c0 ⟨(hi.mp z).1, (hi.mp z).2.1⟩)
    rw [A_isAnd_e]
    by_cases c1 : 0 < k
    · rw [if_pos c1, chk_e (by omega), if_neg (by omega), hn]
    · rw [if_neg c1, hn]
/-- what stands at the head of a step: is a name's end here -/
def chn (t : List Int) (v k : Int) : Bool := decide (v = 0) && isn t k
theorem chn_iff {t : List Int} {v k : Int} : chn t v k = true ↔ v = 0 ∧ isn t k = true := by
  unfold chn
  rw [Bool.and_eq_true, decide_eq_true_iff]
def pcn (t : List Int) : Nat → Int → Int → Int → Int
  | 0, _, n, _ => n
  | m + 1, k, n, v => pcn t m (k + 1) (if chn t v k = true then n + 1 else n) (p_lev v (tg t k))
theorem pcn_cns {t : List Int} (hp : prt t) : ∀ (m : Nat) (k n v : Int), 0 ≤ k → k + m = (t.length : Int) → (it (cns t) m k (if chn t v k = true then n + 1 else n, v)).1 = pcn t m k n v
  | 0, k, n, v, h0, h1 => by
    show (if chn t v k = true then n + 1 else n) = n
    rw [if_neg (fun z => by have := (chn_iff.mp z).2; rw [isn_end hp (by omega)] at this; exact Bool.noConfusion this)]
  | m + 1, k, n, v, h0, h1 => by
    show (it (cns t) m (k + 1) (cns t k (if chn t v k = true then n + 1 else n, v))).1 = pcn t m (k + 1) (if chn t v k = true then n + 1 else n) (p_lev v (tg t k))
    rw [← pcn_cns hp m (k + 1) _ _ (by omega) (by omega)]
    have e : (p_lev v (tg t k) = 0 ∧ isand t k = true) ↔ chn t (p_lev v (tg t k)) (k + 1) = true := by rw [chn_iff, isn_s h0]
    show (it (cns t) m (k + 1) (if p_lev v (tg t k) = 0 ∧ isand t k = true then (if chn t v k = true then n + 1 else n) + 1 else (if chn t v k = true then n + 1 else n), p_lev v (tg t k))).1 = _
    by_cases c : p_lev v (tg t k) = 0 ∧ isand t k = true
    · rw [if_pos c, if_pos (e.mp c)]
    · rw [if_neg c, if_neg (fun z => c (e.mpr z))]
theorem cnn_pcn {t : List Int} (hp : prt t) : cnn t = if allT p_bl t = true then 0 else pcn t t.length 0 1 0 := by
  unfold cnn
  rw [← pcn_cns hp t.length 0 1 0 (by omega) (by omega), if_neg (show ¬ chn t 0 0 = true from fun z => Bool.noConfusion (chn_iff.mp z).2), show ((t.length : Int) - 0).toNat = t.length by omega]
theorem p_pl {N : Nat} {S : s_M} {T : Int → List Int} (h : TX S T) (hp : prt (T 82)) : ∀ (m n : Nat) (k c v : Int) (b : Bool), 0 ≤ k → k + m = ((T 82).length : Int) → 0 ≤ v ∧ v ≤ k → 0 ≤ c ∧ c ≤ k + 1 → m < n → A_people_l9 N n c v (s_b (!b)) k S = some (if it (fun i b => b && p_bl (tg (T 82) i)) m k b = true then 0 else pcn (T 82) m k c v, S)
  | m, 0, k, c, v, b, h0, h1, h2, h3, h4 => absurd h4 (Nat.not_lt_zero _)
  | 0, n + 1, k, c, v, b, h0, h1, h2, h3, h4 => by
    have hl := h.len (k := 82) (by decide)
    rw [A_people_l9_e, if_neg (by omega)]
    cases b <;> rfl
  | m + 1, n + 1, k, c, v, b, h0, h1, h2, h3, h4 => by
    have hl := h.len (k := 82) (by decide)
    have ha := p_att (N := N) h (t := 82) (k := k) (by decide) (by omega)
    have hn := p_isAnd (N := N) h hp (k := k) (by omega)
    have hv := p_lev_rng (c := tg (T 82) k) h2
    have hch := hp k h0 (by omega)
    have hx : (if s_b (!b) = 0 then (if tg (T 82) k = 32 then (0 : Int) else 1 : Int) else 1) = s_b (!(b && p_bl (tg (T 82) k))) := by
      have hb : p_bl (tg (T 82) k) = decide (tg (T 82) k = 32) := by
        unfold p_bl
        exact decide_eq_decide.mpr ⟨fun z => by omega, fun z => Or.inl z⟩
      rw [hb]
      by_cases q : tg (T 82) k = 32
      · rw [if_pos q, decide_eq_true q]
        cases b <;> rfl
      · rw [if_neg q, decide_eq_false q]
        cases b <;> rfl
    have hr := p_pl (N := N) h hp m n (k + 1) (if chn (T 82) v k = true then c + 1 else c) (p_lev v (tg (T 82) k)) (b && p_bl (tg (T 82) k)) (by omega) (by omega) hv (by split <;> omega) (by omega)
    have hr2 : A_people_l9 N n (if chn (T 82) v k = true then c + 1 else c) (p_lev v (tg (T 82) k)) (s_b (!(b && p_bl (tg (T 82) k)))) (k + 1) S = some (if it (fun i b => b && p_bl (tg (T 82) i)) (m + 1) k b = true then 0 else pcn (T 82) (m + 1) k c v, S) := hr
    rw [A_people_l9_e, if_pos (by omega), bnd_e ha, ← hr2, ← hx]
    have hj : ∀ y : Int, rI (c + y) → A_people_j50 N (A_people_l9 N n) v (s_b (!b)) k (tg (T 82) k) y c S = A_people_l9 N n (c + y) (p_lev v (tg (T 82) k)) (if s_b (!b) = 0 then (if tg (T 82) k = 32 then (0 : Int) else 1 : Int) else 1) (k + 1) S := fun y hy => by
      rw [A_people_j50_e, lev_eq, chk_e hy, chk_e (by omega), chk_e (by omega)]
    by_cases c0 : v = 0
    · rw [if_pos c0, bnd_e hn]
      cases e : isn (T 82) k with
      | true => rw [if_neg (by decide), hj 1 (by omega), if_pos (chn_iff.mpr ⟨c0, e⟩)]
      | false => rw [if_pos (by decide), A_people_j49_e, hj 0 (by omega), if_neg (fun z => Bool.noConfusion (e.symm.trans (chn_iff.mp z).2)), Int.add_zero]
    · rw [if_neg c0, A_people_j49_e, hj 0 (by omega), if_neg (fun z => c0 (chn_iff.mp z).1), Int.add_zero]
theorem p_people {N : Nat} (hN : 100 ≤ N) {S : s_M} {T : Int → List Int} (h : TX S T) (hp : prt (T 82)) : A_people N S = some (cnn (T 82), S) := by
  have hl := h.len (k := 82) (by decide)
  rw [A_people_e, cnn_pcn hp]
  have := p_pl (N := N) h hp (T 82).length N 0 1 0 true (by omega) (by omega) (by omega) (by omega) (by omega)
  rw [show s_b (!true) = 0 from rfl] at this
  rw [this]
  rfl
