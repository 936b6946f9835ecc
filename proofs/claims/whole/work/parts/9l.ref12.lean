/-- the b-th name, at the reference's pace -/
def bdr (t : List Int) (b : Int) : Nat → Int → Int → Int → Int → Bool × Int × Int
  | 0, _, n, _, bg => (decide (n = b ∧ 0 < b), bg, (t.length : Int))
  | m + 1, k, n, v, bg => if chn t v k = true then (if n = b then (true, bg, k - 1) else bdr t b m (k + 1) (n + 1) (p_lev v (tg t k)) (k + 3)) else bdr t b m (k + 1) n (p_lev v (tg t k)) bg
theorem bdr_s (t : List Int) (b : Int) (m : Nat) (k n v bg : Int) : bdr t b (m + 1) k n v bg = if chn t v k = true then (if n = b then (true, bg, k - 1) else bdr t b m (k + 1) (n + 1) (p_lev v (tg t k)) (k + 3)) else bdr t b m (k + 1) n (p_lev v (tg t k)) bg := rfl
theorem bdr_fnr {t : List Int} (hp : prt t) {b : Int} : ∀ (m : Nat) (k n v bg : Int), 0 ≤ k → k + m = (t.length : Int) → bdr t b m k n v bg = if chn t v k = true then (if n = b then (true, bg, k - 1) else fnr t b m k (n + 1) v (k + 3)) else fnr t b m k n v bg
  | 0, k, n, v, bg, h0, h1 => by
    rw [if_neg (fun z => by have := (chn_iff.mp z).2; rw [isn_end hp (by omega)] at this; exact Bool.noConfusion this)]
    rfl
  | m + 1, k, n, v, bg, h0, h1 => by
    have e : (p_lev v (tg t k) = 0 ∧ isand t k = true) ↔ chn t (p_lev v (tg t k)) (k + 1) = true := by rw [chn_iff, isn_s h0]
    have hs : ∀ n bg : Int, fnr t b (m + 1) k n v bg = bdr t b m (k + 1) n (p_lev v (tg t k)) bg := fun n bg => by
      rw [bdr_fnr hp m (k + 1) n _ bg (by omega) (by omega)]
      show (if p_lev v (tg t k) = 0 ∧ isand t k = true then (if n = b then (true, bg, k) else fnr t b m (k + 1) (n + 1) (p_lev v (tg t k)) (k + 4)) else fnr t b m (k + 1) n (p_lev v (tg t k)) bg) = _
      by_cases c : p_lev v (tg t k) = 0 ∧ isand t k = true
      · rw [if_pos c, if_pos (e.mp c), show k + 1 - 1 = k by omega, show k + 1 + 3 = k + 4 by omega]
      · rw [if_neg c, if_neg (fun z => c (e.mpr z))]
    rw [bdr_s, hs, hs]
theorem fnm_bdr {t : List Int} (hp : prt t) {b : Int} : fnm t b = bdr t b t.length 0 (if allT p_bl t = true then 0 else 1) 0 0 := by
  rw [bdr_fnr hp t.length 0 _ 0 0 (by omega) (by omega), if_neg (show ¬ chn t 0 0 = true from fun z => Bool.noConfusion (chn_iff.mp z).2)]
  unfold fnm
  rw [show ((t.length : Int) - 0).toNat = t.length by omega]
theorem pcn_ge {t : List Int} : ∀ (m : Nat) (k n v : Int), n ≤ pcn t m k n v
  | 0, k, n, v => Int.le_refl _
  | m + 1, k, n, v => by
    have := pcn_ge (t := t) m (k + 1) (if chn t v k = true then n + 1 else n) (p_lev v (tg t k))
    show n ≤ pcn t m (k + 1) (if chn t v k = true then n + 1 else n) (p_lev v (tg t k))
    refine Int.le_trans ?_ this
    split <;> omega
theorem bdr_found {t : List Int} {b : Int} (hb : 0 < b) : ∀ (m : Nat) (k n v bg : Int), (bdr t b m k n v bg).1 = true ↔ n ≤ b ∧ b ≤ pcn t m k n v
  | 0, k, n, v, bg => by
    show decide (n = b ∧ 0 < b) = true ↔ n ≤ b ∧ b ≤ n
    rw [decide_eq_true_iff]
    omega
  | m + 1, k, n, v, bg => by
    rw [bdr_s]
    show _ ↔ n ≤ b ∧ b ≤ pcn t m (k + 1) (if chn t v k = true then n + 1 else n) (p_lev v (tg t k))
    by_cases c : chn t v k = true
    · rw [if_pos c, if_pos c]
      have hg := pcn_ge (t := t) m (k + 1) (n + 1) (p_lev v (tg t k))
      by_cases c1 : n = b
      · rw [if_pos c1]
        exact ⟨fun _ => by omega, fun _ => rfl⟩
      · rw [if_neg c1, bdr_found hb m]
        omega
    · rw [if_neg c, if_neg c]
      exact bdr_found hb m _ _ _ _
theorem allT_no {t : List Int} (hp : prt t) (h : allT p_bl t = true) : ∀ i : Int, 0 ≤ i → i < (t.length : Int) → tg t i = 32 := by
  have gen : ∀ (m : Nat) (k : Int) (b : Bool), it (fun i b => b && p_bl (tg t i)) m k b = true → b = true ∧ ∀ i : Int, k ≤ i → i < k + m → p_bl (tg t i) = true := by
    intro m
    induction m with
    | zero => exact fun k b hb => ⟨hb, fun i i0 i1 => absurd i1 (by omega)⟩
    | succ m ih =>
      intro k b hb
      obtain ⟨q1, q2⟩ := ih (k + 1) (b && p_bl (tg t k)) hb
      rw [Bool.and_eq_true] at q1
      refine ⟨q1.1, fun i i0 i1 => ?_⟩
      by_cases e : i = k
      · rw [e]
        exact q1.2
      · exact q2 i (by omega) (by omega)
  intro i i0 i1
  have := (gen _ _ _ h).2 i i0 (by omega)
  have h2 := of_decide_eq_true this
  have h3 := hp i i0 i1
  omega
theorem bdr_none {t : List Int} {b : Int} (hi : ∀ k, isn t k = false) (hb : ¬ 0 < b) : ∀ (m : Nat) (k n v bg : Int), (bdr t b m k n v bg).1 = false
  | 0, k, n, v, bg => decide_eq_false (fun z => hb z.2)
  | m + 1, k, n, v, bg => by
    rw [bdr_s, if_neg (fun z => by have := (chn_iff.mp z).2; rw [hi k] at this; exact Bool.noConfusion this)]
    exact bdr_none hi hb m _ _ _ _
theorem bdr_low {t : List Int} {b : Int} (hb : ¬ 0 < b) : ∀ (m : Nat) (k n v bg : Int), 0 < n → (bdr t b m k n v bg).1 = false
  | 0, k, n, v, bg, h => decide_eq_false (fun z => hb z.2)
  | m + 1, k, n, v, bg, h => by
    rw [bdr_s]
    split
    · rw [if_neg (by omega)]
      exact bdr_low hb m _ _ _ _ (by omega)
    · exact bdr_low hb m _ _ _ _ h
theorem bdr_zero {t : List Int} {b : Int} (hi : ∀ k, isn t k = false) (hb : 0 < b) : ∀ (m : Nat) (k v bg : Int), (bdr t b m k 0 v bg).1 = false
  | 0, k, v, bg => decide_eq_false (fun z => by omega)
  | m + 1, k, v, bg => by
    rw [bdr_s, if_neg (fun z => by have := (chn_iff.mp z).2; rw [hi k] at this; exact Bool.noConfusion this)]
    exact bdr_zero hi hb m _ _ _
theorem allT_isn {t : List Int} (hp : prt t) (h : allT p_bl t = true) (k : Int) : isn t k = false := by
  cases e : isn t k with
  | false => rfl
  | true =>
    obtain ⟨a1, a2, a3, a4, a5⟩ := (isn_iff hp).mp e
    have := allT_no hp h k (by omega) (by omega)
    omega
/-- a name is found just where the reference goes on -/
theorem fnm_found {t : List Int} (hp : prt t) {b : Int} : (fnm t b).1 = true ↔ 1 ≤ b ∧ b ≤ cnn t := by
  rw [fnm_bdr hp, cnn_pcn hp]
  by_cases c : allT p_bl t = true
  · rw [if_pos c, if_pos c]
    have hi := allT_isn hp c
    by_cases c1 : 0 < b
    · rw [bdr_zero hi c1]
      exact ⟨fun z => Bool.noConfusion z, fun z => by omega⟩
    · rw [bdr_none hi c1]
      exact ⟨fun z => Bool.noConfusion z, fun z => by omega⟩
  · rw [if_neg c, if_neg c]
    by_cases c1 : 0 < b
    · rw [bdr_found c1]
    · rw [bdr_low c1 _ _ _ _ _ (by decide)]
      exact ⟨fun z => Bool.noConfusion z, fun z => by omega⟩
theorem fnm_b1 {t : List Int} (hp : prt t) {b : Int} (h : (fnm t b).1 = true) : fnm t b = bdr t b t.length 0 1 0 0 := by
  have := (fnm_found hp).mp h
  rw [cnn_pcn hp] at this
  by_cases c : allT p_bl t = true
  · rw [if_pos c] at this
    omega
  · rw [fnm_bdr hp, if_neg c]
/-- one step of border, both ways -/
theorem p_bst {N n : Nat} {S : s_M} {T : Int → List Int} (h : TX S T) (hp : prt (T 82)) {b e c v st k : Int} (hk : 0 ≤ k ∧ k < ((T 82).length : Int)) (hv : 0 ≤ v ∧ v ≤ k) (hc : 0 ≤ c ∧ c ≤ k + 1) : A_border_l11 N (n + 1) b e c v st k S = if chn (T 82) v k = true then (if e ≠ 0 ∧ c = b then some (k, S) else A_border_l11 N n b e (c + 1) (p_lev v (tg (T 82) k)) (if c + 1 = b then k + 3 else st) (k + 1) S) else A_border_l11 N n b e c (p_lev v (tg (T 82) k)) st (k + 1) S := by
  have hl := h.len (k := 82) (by decide)
  have ha := p_att (N := N) h (t := 82) (k := k) (by decide) (by omega)
  have hn := p_isAnd (N := N) h hp (k := k) (by omega)
  have hlv := p_lev_rng (c := tg (T 82) k) hv
  have hj : ∀ c st : Int, A_border_j73 N (A_border_l11 N n) b e c v st k (tg (T 82) k) S = A_border_l11 N n b e c (p_lev v (tg (T 82) k)) st (k + 1) S := fun c st => by
    rw [A_border_j73_e, lev_eq, chk_e (by omega), chk_e (by omega)]
  have hm : A_border_j59 N (A_border_l11 N n) b e c v st k (tg (T 82) k) S = A_border_l11 N n b e (c + 1) (p_lev v (tg (T 82) k)) (if c + 1 = b then k + 3 else st) (k + 1) S := by
    rw [A_border_j59_e, chk_e (by omega)]
    by_cases q : c + 1 = b
    · rw [if_pos q, if_pos q, chk_e (by omega), hj]
    · rw [if_neg q, if_neg q, hj]
  rw [A_border_l11_e, if_pos (by omega), bnd_e ha]
  by_cases c0 : v = 0
  · rw [if_pos c0, bnd_e hn]
    cases q : isn (T 82) k with
    | true =>
      rw [if_neg (by decide), if_pos (chn_iff.mpr ⟨c0, q⟩), hm]
      by_cases e0 : e = 0
      · rw [if_pos e0, if_neg (show ¬ (e ≠ 0 ∧ c = b) from fun z => z.1 e0)]
      · rw [if_neg e0]
        by_cases e1 : c = b
        · rw [if_pos e1, if_pos ⟨e0, e1⟩]
        · rw [if_neg e1, if_neg (show ¬ (e ≠ 0 ∧ c = b) from fun z => e1 z.2)]
    | false => rw [if_pos (by decide), if_neg (fun z => Bool.noConfusion (q.symm.trans (chn_iff.mp z).2)), hj]
  · rw [if_neg c0, if_neg (fun z => c0 (chn_iff.mp z).1), hj]
theorem p_bs2 {N : Nat} {S : s_M} {T : Int → List Int} (h : TX S T) (hp : prt (T 82)) {b : Int} : ∀ (m n : Nat) (k c v st : Int), 0 ≤ k → k + m = ((T 82).length : Int) → 0 ≤ v ∧ v ≤ k → 0 ≤ c ∧ c ≤ k + 1 → b ≤ c → m < n → A_border_l11 N n b 0 c v st k S = some (st, S)
  | m, 0, k, c, v, st, h0, h1, h2, h3, hb, h4 => absurd h4 (Nat.not_lt_zero _)
  | 0, n + 1, k, c, v, st, h0, h1, h2, h3, hb, h4 => by
    have hl := h.len (k := 82) (by decide)
    rw [A_border_l11_e, if_neg (by omega), if_pos rfl, A_border_j128_e]
  | m + 1, n + 1, k, c, v, st, h0, h1, h2, h3, hb, h4 => by
    have hlv := p_lev_rng (c := tg (T 82) k) h2
    rw [p_bst h hp (by omega) h2 h3]
    split
    · rw [if_neg (fun z => z.1 rfl), if_neg (by omega)]
      exact p_bs2 h hp m n (k + 1) (c + 1) _ st (by omega) (by omega) hlv (by omega) (by omega) (by omega)
    · exact p_bs2 h hp m n (k + 1) c _ st (by omega) (by omega) hlv (by omega) hb (by omega)
theorem p_bs1 {N : Nat} {S : s_M} {T : Int → List Int} (h : TX S T) (hp : prt (T 82)) {b : Int} : ∀ (m n : Nat) (k c v st bg : Int), 0 ≤ k → k + m = ((T 82).length : Int) → 0 ≤ v ∧ v ≤ k → 0 ≤ c ∧ c ≤ k + 1 → c ≤ b → (c = b → st = bg) → (bdr (T 82) b m k c v bg).1 = true → m < n → A_border_l11 N n b 0 c v st k S = some ((bdr (T 82) b m k c v bg).2.1, S)
  | m, 0, k, c, v, st, bg, h0, h1, h2, h3, hb, hs, hf, h4 => absurd h4 (Nat.not_lt_zero _)
  | 0, n + 1, k, c, v, st, bg, h0, h1, h2, h3, hb, hs, hf, h4 => by
    have hl := h.len (k := 82) (by decide)
    have := of_decide_eq_true hf
    rw [A_border_l11_e, if_neg (by omega), if_pos rfl, A_border_j128_e, hs this.1]
    rfl
  | m + 1, n + 1, k, c, v, st, bg, h0, h1, h2, h3, hb, hs, hf, h4 => by
    have hlv := p_lev_rng (c := tg (T 82) k) h2
    rw [bdr_s] at hf ⊢
    rw [p_bst h hp (by omega) h2 h3]
    by_cases q : chn (T 82) v k = true
    · rw [if_pos q] at hf
      rw [if_pos q, if_pos q, if_neg (fun z => z.1 rfl)]
      by_cases e : c = b
      · rw [if_pos e, if_neg (by omega), ← hs e]
        exact p_bs2 h hp m n (k + 1) (c + 1) _ st (by omega) (by omega) hlv (by omega) (by omega) (by omega)
      · rw [if_neg e] at hf
        rw [if_neg e]
        exact p_bs1 h hp m n (k + 1) (c + 1) _ _ (k + 3) (by omega) (by omega) hlv (by omega) (by omega) (fun z => if_pos z) hf (by omega)
    · rw [if_neg q] at hf
      rw [if_neg q, if_neg q]
      exact p_bs1 h hp m n (k + 1) c _ st bg (by omega) (by omega) hlv (by omega) hb hs hf (by omega)
theorem p_bs3 {N : Nat} {S : s_M} {T : Int → List Int} (h : TX S T) (hp : prt (T 82)) {b : Int} : ∀ (m n : Nat) (k c v st bg : Int), 0 ≤ k → k + m = ((T 82).length : Int) → 0 ≤ v ∧ v ≤ k → 0 ≤ c ∧ c ≤ k + 1 → m < n → A_border_l11 N n b 1 c v st k S = some (min ((bdr (T 82) b m k c v bg).2.2 + 1) ((T 82).length : Int), S)
  | m, 0, k, c, v, st, bg, h0, h1, h2, h3, h4 => absurd h4 (Nat.not_lt_zero _)
  | 0, n + 1, k, c, v, st, bg, h0, h1, h2, h3, h4 => by
    have hl := h.len (k := 82) (by decide)
    rw [A_border_l11_e, if_neg (by omega), if_neg (by decide), A_border_j128_e, hl.1]
    show _ = some (min (((T 82).length : Int) + 1) ((T 82).length : Int), S)
    rw [show min (((T 82).length : Int) + 1) ((T 82).length : Int) = ((T 82).length : Int) by omega]
  | m + 1, n + 1, k, c, v, st, bg, h0, h1, h2, h3, h4 => by
    have hlv := p_lev_rng (c := tg (T 82) k) h2
    rw [bdr_s, p_bst h hp (by omega) h2 h3]
    by_cases q : chn (T 82) v k = true
    · rw [if_pos q, if_pos q]
      by_cases e : c = b
      · rw [if_pos e, if_pos ⟨by decide, e⟩]
        show some (k, S) = some (min (k - 1 + 1) ((T 82).length : Int), S)
        rw [show min (k - 1 + 1) ((T 82).length : Int) = k by omega]
      · rw [if_neg e, if_neg (fun z => e z.2)]
        exact p_bs3 h hp m n (k + 1) (c + 1) _ _ _ (by omega) (by omega) hlv (by omega) (by omega)
    · rw [if_neg q, if_neg q]
      exact p_bs3 h hp m n (k + 1) c _ st bg (by omega) (by omega) hlv (by omega) (by omega)
theorem p_border {N : Nat} (hN : 100 ≤ N) {S : s_M} {T : Int → List Int} (h : TX S T) (hp : prt (T 82)) {b : Int} (hf : (fnm (T 82) b).1 = true) : A_border N b 0 S = some ((fnm (T 82) b).2.1, S) ∧ A_border N b 1 S = some (min ((fnm (T 82) b).2.2 + 1) ((T 82).length : Int), S) := by
  have hl := h.len (k := 82) (by decide)
  have hb := (fnm_found hp).mp hf
  have he := fnm_b1 hp hf
  rw [he] at hf ⊢
  constructor
  · rw [A_border_e]
    exact p_bs1 h hp _ _ _ _ _ _ _ (by omega) (by omega) (by omega) (by omega) (by omega) (fun _ => rfl) hf (by omega)
  · rw [A_border_e]
    exact p_bs3 h hp _ _ _ _ _ _ _ (by omega) (by omega) (by omega) (by omega) (by omega)
/-- the level behind m characters from i on -/
def lvl (t : List Int) (m : Nat) (i v : Int) : Int := it (fun i v => p_lev v (tg t i)) m i v
theorem lvl_end {t : List Int} : ∀ (m : Nat) (i v : Int), lvl t (m + 1) i v = p_lev (lvl t m i v) (tg t (i + m))
  | 0, i, v => by
    show p_lev v (tg t i) = p_lev v (tg t (i + ((0 : Nat) : Int)))
    rw [show i + ((0 : Nat) : Int) = i by omega]
  | m + 1, i, v => by
    show lvl t (m + 1) (i + 1) (p_lev v (tg t i)) = _
    rw [lvl_end m (i + 1) (p_lev v (tg t i)), show i + 1 + (m : Int) = i + ((m + 1 : Nat) : Int) by omega]
    rfl
/-- what is known of a name's begin: the level there is 0 -/
def bgk (t : List Int) (k v bg : Int) : Prop := (0 ≤ bg ∧ bg ≤ (t.length : Int)) ∧ (bg = 0 ∨ tg t bg = 32) ∧ (bg ≤ k → v = lvl t (k - bg).toNat bg 0) ∧ (k < bg → v = 0 ∧ ∀ j : Int, k ≤ j → j < bg → tg t j = 110 ∨ tg t j = 100)
theorem p_lev_o {v c : Int} (h : c ≠ 123 ∧ c ≠ 125) : p_lev v c = v := by
  unfold p_lev
  rw [if_neg h.1, if_neg (fun z => h.2 z.1)]
theorem bgk.step {t : List Int} {k v bg : Int} (h : bgk t k v bg) : bgk t (k + 1) (p_lev v (tg t k)) bg := by
  obtain ⟨a1, a2, a3, a4⟩ := h
  refine ⟨a1, a2, fun z => ?_, fun z => ?_⟩
  · by_cases e : k < bg
    · obtain ⟨b1, b2⟩ := a4 e
      have := b2 k (by omega) e
      rw [b1, p_lev_o (by omega), show (k + 1 - bg).toNat = 0 by omega]
      rfl
    · rw [show (k + 1 - bg).toNat = (k - bg).toNat + 1 by omega, lvl_end, ← a3 (by omega), show bg + (((k - bg).toNat : Nat) : Int) = k by omega]
  · obtain ⟨b1, b2⟩ := a4 (by omega)
    have := b2 k (by omega) (by omega)
    exact ⟨by rw [b1, p_lev_o (by omega)], fun j j0 j1 => b2 j (by omega) j1⟩
theorem bgk.new {t : List Int} (hp : prt t) {k : Int} (h : isn t k = true) : bgk t (k + 1) (p_lev 0 (tg t k)) (k + 3) := by
  obtain ⟨a1, a2, a3, a4, a5, a6, a7⟩ := (isn_iff hp).mp h
  refine ⟨by omega, Or.inr a7, fun z => by omega, fun _ => ⟨by rw [a4]; rfl, fun j j0 j1 => ?_⟩⟩
  rcases (by omega : j = k + 1 ∨ j = k + 2) with q | q
  · rw [q]
    exact Or.inl a5
  · rw [q]
    exact Or.inr a6
theorem bdr_ok {t : List Int} (hp : prt t) {b : Int} : ∀ (m : Nat) (k n v bg : Int), 0 ≤ k → k + m = (t.length : Int) → bgk t k v bg → (0 ≤ (bdr t b m k n v bg).2.1 ∧ (bdr t b m k n v bg).2.1 ≤ (bdr t b m k n v bg).2.2 ∧ (bdr t b m k n v bg).2.2 ≤ (t.length : Int)) ∧ ((bdr t b m k n v bg).2.2 < (t.length : Int) → tg t (bdr t b m k n v bg).2.2 = 32 ∧ lvl t ((bdr t b m k n v bg).2.2 - (bdr t b m k n v bg).2.1).toNat (bdr t b m k n v bg).2.1 0 = 0)
  | 0, k, n, v, bg, h0, h1, h => by
    show (0 ≤ bg ∧ bg ≤ (t.length : Int) ∧ (t.length : Int) ≤ (t.length : Int)) ∧ ((t.length : Int) < (t.length : Int) → _)
    exact ⟨⟨h.1.1, h.1.2, Int.le_refl _⟩, fun z => absurd z (by omega)⟩
  | m + 1, k, n, v, bg, h0, h1, h => by
    rw [bdr_s]
    by_cases c : chn t v k = true
    · rw [if_pos c]
      obtain ⟨c1, c2⟩ := chn_iff.mp c
      by_cases e : n = b
      · rw [if_pos e]
        show (0 ≤ bg ∧ bg ≤ k - 1 ∧ k - 1 ≤ (t.length : Int)) ∧ (k - 1 < (t.length : Int) → tg t (k - 1) = 32 ∧ lvl t (k - 1 - bg).toNat bg 0 = 0)
        obtain ⟨a1, a2, a3, a4, a5, a6, a7⟩ := (isn_iff hp).mp c2
        obtain ⟨b1, b2, b3, b4⟩ := h
        have g1 : bg ≤ k := by
          by_cases z : k < bg
          · have := (b4 z).2 k (by omega) z
            omega
          · omega
        have g2 : bg ≠ k := fun z => by
          rw [z] at b2
          omega
        refine ⟨by omega, fun _ => ⟨a3, ?_⟩⟩
        have := b3 g1
        rw [show (k - bg).toNat = (k - 1 - bg).toNat + 1 by omega, lvl_end, show bg + (((k - 1 - bg).toNat : Nat) : Int) = k - 1 by omega, a3, p_lev_o (by decide)] at this
        omega
      · rw [if_neg e]
        rw [c1]
        exact bdr_ok hp m _ _ _ _ (by omega) (by omega) (bgk.new hp c2)
    · rw [if_neg c]
      exact bdr_ok hp m _ _ _ _ (by omega) (by omega) h.step
theorem fnm_ok {t : List Int} (hp : prt t) {b : Int} (h : (fnm t b).1 = true) : (0 ≤ (fnm t b).2.1 ∧ (fnm t b).2.1 ≤ (fnm t b).2.2 ∧ (fnm t b).2.2 ≤ (t.length : Int)) ∧ ((fnm t b).2.2 < (t.length : Int) → tg t (fnm t b).2.2 = 32 ∧ lvl t ((fnm t b).2.2 - (fnm t b).2.1).toNat (fnm t b).2.1 0 = 0) := by
  rw [fnm_b1 hp h]
  exact bdr_ok hp _ _ _ _ _ (by omega) (by omega) ⟨by omega, Or.inl rfl, fun _ => rfl, fun z => absurd z (by omega)⟩
