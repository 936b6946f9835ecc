theorem lset_lset {T : Int → List Int} {j : Int} {u v : List Int} : lset (lset T j u) j v = lset T j v := by
  funext i
  unfold lset
  by_cases h : i = j
  · rw [if_pos h, if_pos h]
  · rw [if_neg h, if_neg h, if_neg h]
theorem lset_self {T : Int → List Int} {j : Int} : lset T j (T j) = T := by
  funext i
  unfold lset
  by_cases h : i = j
  · rw [if_pos h, h]
  · rw [if_neg h]
theorem i64_u (x : Int) : Int64.ofInt x = Int64.ofInt (u64 x) := Value.long.inj (u64_vl x)
theorem bt_eq {x i : Int} (hi : 0 ≤ i ∧ i < 8) : wi32 (l_and (s_sar x (8 * i)) 255) = by_ (u64 x) i := by
  have hb := by_r (u64 x) i
  have e1 : s_sar x (8 * i) = s_sar (u64 x) (8 * i) := by
    unfold s_sar
    rw [i64_u x]
  have e2 : l_and (s_sar x (8 * i)) 255 = by_ (u64 x) i := by
    unfold l_and
    rw [e1, l_sarby (u64_rng x) hi]
    exact Int64.toInt_ofInt_of_le (by omega) (by omega)
  rw [e2]
  exact wi32_id (by omega)
theorem p_unpl {N : Nat} {x t : Int} (ht : 0 ≤ t ∧ t < 85) : ∀ (m n : Nat) (i : Int) (b : Bool) (S : s_M) (T : Int → List Int), TX S T → 0 ≤ i → i + m = 8 → ((T t).length : Int) ≤ i → m < n → ∃ S', A_unpack_l11 N n x t (s_b b) i S = some (0, S') ∧ TX S' (lset T t (it (ust (u64 x)) m i (b, T t)).2) ∧ exT S S'
  | m, 0, i, b, S, T, h, h0, h1, hl, h2 => absurd h2 (Nat.not_lt_zero _)
  | 0, n + 1, i, b, S, T, h, h0, h1, hl, h2 => by
    refine ⟨S, ?_, ?_, exT.refl S⟩
    · rw [A_unpack_l11_e, if_neg (by omega), A_unpack_j66_e]
    · show TX S (lset T t (T t))
      rw [lset_self]
      exact h
  | m + 1, n + 1, i, b, S, T, h, h0, h1, hl, h2 => by
    cases b with
    | false =>
      refine ⟨S, ?_, ?_, exT.refl S⟩
      · rw [A_unpack_l11_e, if_pos (by omega), if_pos (by decide), A_unpack_j66_e]
      · rw [it_abs (ust (u64 x)) (s := (false, T t)) (fun j => if_neg (by decide : ¬ (false : Bool) = true))]
        show TX S (lset T t (T t))
        rw [lset_self]
        exact h
    | true =>
      have hbt := bt_eq (x := x) (i := i) ⟨h0, by omega⟩
      show ∃ S', _ ∧ TX S' (lset T t (it (ust (u64 x)) m (i + 1) (ust (u64 x) i (true, T t))).2) ∧ _
      by_cases e : p_prn (by_ (u64 x) i) = true
      · obtain ⟨S1, a1, a2, a3⟩ := p_add (N := N) h (t := t) (c := by_ (u64 x) i) ht
        have eu : ust (u64 x) i (true, T t) = (true, ta 60 (T t) (by_ (u64 x) i)) := by
          unfold ust
          rw [if_pos rfl, if_pos e, show ta 60 (T t) (by_ (u64 x) i) = T t ++ [by_ (u64 x) i] from if_pos (by omega)]
        have hl2 : ((lset T t (ta 60 (T t) (by_ (u64 x) i)) t).length : Int) ≤ i + 1 := by
          rw [lset_at, show ta 60 (T t) (by_ (u64 x) i) = T t ++ [by_ (u64 x) i] from if_pos (by omega), List.length_append]
          show (((T t).length + 1 : Nat) : Int) ≤ i + 1
          omega
        obtain ⟨S2, b1, b2, b3⟩ := p_unpl ht m n (i + 1) true S1 _ a2 (by omega) (by omega) hl2 (by omega)
        rw [lset_at, lset_lset] at b2
        refine ⟨S2, ?_, by rw [eu]; exact b2, a3.trans b3⟩
        have e2 : (decide (32 ≤ by_ (u64 x) i ∧ by_ (u64 x) i ≤ 126)) = true := e
        rw [A_unpack_l11_e, if_pos (by omega), if_neg (by decide), chk_e (by omega), hbt, if_pos e2, bnd_e a1, A_unpack_j60_e, chk_e (by omega), e2]
        exact b1
      · have eu : ust (u64 x) i (true, T t) = (false, T t) := by
          unfold ust
          rw [if_pos rfl, if_neg e]
        obtain ⟨S2, b1, b2, b3⟩ := p_unpl (N := N) (x := x) ht m n (i + 1) false S T h (by omega) (by omega) (by omega) (by omega)
        refine ⟨S2, ?_, by rw [eu]; exact b2, b3⟩
        have e2 : (decide (32 ≤ by_ (u64 x) i ∧ by_ (u64 x) i ≤ 126)) = false := by
          rw [Bool.not_eq_true] at e
          exact e
        rw [A_unpack_l11_e, if_pos (by omega), if_neg (by decide), chk_e (by omega), hbt, if_neg (bnf e2), A_unpack_j60_e, chk_e (by omega), e2]
        exact b1
theorem p_unpack {N : Nat} (hN : 100 ≤ N) {S : s_M} {T : Int → List Int} (h : TX S T) {x t : Int} (ht : 0 ≤ t ∧ t < 85) : ∃ S', A_unpack N x t S = some (0, S') ∧ TX S' (lset T t (uof (u64 x))) ∧ exT S S' := by
  obtain ⟨c1, c2⟩ := h.clear (t := t)
  obtain ⟨S1, a1, a2, a3⟩ := p_unpl (N := N) (x := x) ht 8 N 0 true (m_s S 3 t 0) _ c1 (by omega) (by omega) (by rw [lset_at]; decide) (by omega)
  rw [lset_at, lset_lset] at a2
  exact ⟨S1, by rw [A_unpack_e, bnd_e (p_clear ht)]; exact a1, a2, c2.trans a3⟩
theorem uof_prt (x : Int) : prt (uof x) ∧ (uof x).length ≤ 8 := by
  have key : ∀ (m : Nat) (i : Int) (s : Bool × List Int), prt s.2 → prt (it (ust x) m i s).2 ∧ (it (ust x) m i s).2.length ≤ s.2.length + m := by
    intro m
    induction m with
    | zero => intro i s h; exact ⟨h, Nat.le_refl _⟩
    | succ m ih =>
      intro i s h
      have h1 : prt (ust x i s).2 ∧ (ust x i s).2.length ≤ s.2.length + 1 := by
        unfold ust
        split
        · split
          · rename_i e
            refine ⟨fun j j0 j1 => ?_, by show (s.2 ++ [by_ x i]).length ≤ _; rw [List.length_append]; exact Nat.le_refl _⟩
            have j2 : j < ((s.2 ++ [by_ x i]).length : Int) := j1
            rw [List.length_append] at j2
            have j3 : j < ((s.2.length + 1 : Nat) : Int) := j2
            show 32 ≤ tg (s.2 ++ [by_ x i]) j ∧ tg (s.2 ++ [by_ x i]) j ≤ 126
            rw [tg_app]
            split
            · exact of_decide_eq_true e
            · exact h j j0 (by omega)
          · exact ⟨h, by show s.2.length ≤ s.2.length + 1; omega⟩
        · exact ⟨h, by omega⟩
      obtain ⟨a, b⟩ := ih (i + 1) (ust x i s) h1.1
      exact ⟨a, Nat.le_trans b (by omega)⟩
  have := key ((8 : Int) - 0).toNat 0 (true, []) prt_nil
  unfold uof
  exact ⟨this.1, by have := this.2; show _ ≤ 8; exact this⟩
theorem p_purl {N : Nat} {t : List Int} : ∀ (m n : Nat) (k : Int) (S : s_M) (T : Int → List Int), TX S T → T 82 = t → 0 ≤ k → k + m = (t.length : Int) → m < n → ∃ S', A_purified_l8 N n k S = some (0, S') ∧ TX S' (lset T 84 (it (pst t) m k (T 84))) ∧ exT S S'
  | m, 0, k, S, T, h, hT, h0, h1, h2 => absurd h2 (Nat.not_lt_zero _)
  | 0, n + 1, k, S, T, h, hT, h0, h1, h2 => by
    have hl := h.len (k := 82) (by decide)
    rw [hT] at hl
    refine ⟨S, by rw [A_purified_l8_e, if_neg (by omega)], ?_, exT.refl S⟩
    show TX S (lset T 84 (T 84))
    rw [lset_self]
    exact h
  | m + 1, n + 1, k, S, T, h, hT, h0, h1, h2 => by
    have hl := h.len (k := 82) (by decide)
    rw [hT] at hl
    have ha := p_att (N := N) h (t := 82) (k := k) (by decide) (by rw [hT]; exact ⟨h0, by omega⟩)
    rw [hT] at ha
    have fin : ∀ (c : Int), pst t k (T 84) = ta 60 (T 84) c → (∀ S1, A_add N 84 c S = some (0, S1) → A_purified_l8 N (n + 1) k S = A_purified_j74 N (A_purified_l8 N n) k S1) → ∃ S', A_purified_l8 N (n + 1) k S = some (0, S') ∧ TX S' (lset T 84 (it (pst t) (m + 1) k (T 84))) ∧ exT S S' := fun c e1 e2 => by
      obtain ⟨S1, a1, a2, a3⟩ := p_add (N := N) h (t := 84) (c := c) (by decide)
      obtain ⟨S2, b1, b2, b3⟩ := p_purl (t := t) m n (k + 1) S1 _ a2 (by rw [lset_ne (by decide)]; exact hT) (by omega) (by omega) (by omega)
      rw [lset_at, lset_lset, ← e1] at b2
      exact ⟨S2, by rw [e2 S1 a1, A_purified_j74_e, chk_e (by omega)]; exact b1, b2, a3.trans b3⟩
    by_cases e1 : tg t k = 45 ∨ tg t k = 126
    · have n1 : p_let (tg t k) = false := by
        rcases e1 with e | e <;> rw [e] <;> decide
      have n2 : p_dig (tg t k) = false := by
        rcases e1 with e | e <;> rw [e] <;> decide
      refine fin 32 (if_pos e1) (fun S1 a1 => ?_)
      rw [A_purified_l8_e, if_pos (by omega), bnd_e ha, if_neg (bnf n1), if_neg (bnf n2), if_neg (by omega), A_purified_j54_e]
      rcases e1 with e | e
      · rw [if_pos e, A_purified_j66_e, bnd_e a1]
      · rw [if_neg (by omega), if_pos e, A_purified_j66_e, bnd_e a1]
    · by_cases e2 : p_let (tg t k) = true ∨ p_dig (tg t k) = true ∨ tg t k = 32
      · refine fin (tg t k) ((if_neg e1).trans (if_pos e2)) (fun S1 a1 => ?_)
        have hj : A_purified_j47 N (A_purified_l8 N n) k (tg t k) S = A_purified_j74 N (A_purified_l8 N n) k S1 := by
          rw [A_purified_j47_e, bnd_e a1, A_purified_j54_e, if_neg (fun z => e1 (Or.inl z)), if_neg (fun z => e1 (Or.inr z))]
        rw [A_purified_l8_e, if_pos (by omega), bnd_e ha]
        by_cases q1 : p_let (tg t k) = true
        · rw [if_pos q1, hj]
        · rw [if_neg q1]
          by_cases q2 : p_dig (tg t k) = true
          · rw [if_pos q2, hj]
          · rw [if_neg q2, if_pos (by rcases e2 with z | z | z; exact absurd z q1; exact absurd z q2; exact z), hj]
      · obtain ⟨S2, b1, b2, b3⟩ := p_purl (t := t) m n (k + 1) S T h hT (by omega) (by omega) (by omega)
        have e3 : pst t k (T 84) = T 84 := (if_neg e1).trans (if_neg e2)
        refine ⟨S2, ?_, by show TX S2 (lset T 84 (it (pst t) m (k + 1) (pst t k (T 84)))); rw [e3]; exact b2, b3⟩
        rw [A_purified_l8_e, if_pos (by omega), bnd_e ha, if_neg (fun z => e2 (Or.inl z)), if_neg (fun z => e2 (Or.inr (Or.inl z))), if_neg (fun z => e2 (Or.inr (Or.inr z))), A_purified_j54_e, if_neg (fun z => e1 (Or.inl z)), if_neg (fun z => e1 (Or.inr z)), A_purified_j74_e, chk_e (by omega)]
        exact b1
theorem p_purified {N : Nat} (hN : 100 ≤ N) {S : s_M} {T : Int → List Int} (h : TX S T) : ∃ S', A_purified N S = some (0, S') ∧ TX S' (lset T 84 (pof (T 82))) ∧ exT S S' := by
  have hl := h.len (k := 82) (by decide)
  obtain ⟨c1, c2⟩ := h.clear (t := 84)
  obtain ⟨S1, a1, a2, a3⟩ := p_purl (N := N) (t := T 82) (T 82).length N 0 (m_s S 3 84 0) _ c1 (lset_ne (by decide)) (by omega) (by omega) (by omega)
  rw [lset_at, lset_lset] at a2
  refine ⟨S1, by rw [A_purified_e, bnd_e (p_clear (by decide))]; exact a1, ?_, c2.trans a3⟩
  unfold pof
  rw [show (((T 82).length : Int) - 0).toNat = (T 82).length by omega]
  exact a2
theorem lev_eq (v c : Int) : v + (if c = 123 then (1 : Int) else (if c = 125 then (if 0 < v then ((-1) : Int) else 0 : Int) else 0)) = p_lev v c := by
  unfold p_lev
  by_cases e1 : c = 123
  · rw [if_pos e1, if_pos e1]
  · rw [if_neg e1, if_neg e1]
    by_cases e2 : c = 125
    · rw [if_pos e2]
      by_cases e3 : 0 < v
      · rw [if_pos e3, if_pos ⟨e2, e3⟩]
        omega
      · rw [if_neg e3, if_neg (fun z => e3 z.2)]
        omega
    · rw [if_neg e2, if_neg (fun z => e2 z.1)]
      omega
theorem brc_eq (v c : Int) : v + (if c = 123 then (0 : Int) else (if c = 125 then (0 : Int) else 1)) = if p_brc c = true then v else v + 1 := by
  unfold p_brc
  by_cases e1 : c = 123
  · rw [if_pos e1, if_pos (decide_eq_true (Or.inl e1))]
    omega
  · rw [if_neg e1]
    by_cases e2 : c = 125
    · rw [if_pos e2, if_pos (decide_eq_true (Or.inr e2))]
      omega
    · rw [if_neg e2, if_neg (by simp; omega)]
theorem p_prel2 {N : Nat} {o : Int} : ∀ (m n : Nat) (k : Int) (S : s_M) (T : Int → List Int), TX S T → 0 ≤ k → k + m = o → o ≤ 1000 → m < n → ∃ S', A_prefix_l109 N n o k S = some (0, S') ∧ TX S' (lset T 84 (it cbst m k (T 84))) ∧ exT S S'
  | m, 0, k, S, T, h, h0, h1, h3, h2 => absurd h2 (Nat.not_lt_zero _)
  | 0, n + 1, k, S, T, h, h0, h1, h3, h2 => by
    refine ⟨S, by rw [A_prefix_l109_e, if_neg (by omega)], ?_, exT.refl S⟩
    show TX S (lset T 84 (T 84))
    rw [lset_self]
    exact h
  | m + 1, n + 1, k, S, T, h, h0, h1, h3, h2 => by
    obtain ⟨S1, a1, a2, a3⟩ := p_add (N := N) h (t := 84) (c := 125) (by decide)
    obtain ⟨S2, b1, b2, b3⟩ := p_prel2 m n (k + 1) S1 _ a2 (by omega) (by omega) h3 (by omega)
    rw [lset_at, lset_lset] at b2
    exact ⟨S2, by rw [A_prefix_l109_e, if_pos (by omega), bnd_e a1, chk_e (by omega)]; exact b1, b2, a3.trans b3⟩
theorem p_prel {N : Nat} (hN : 100 ≤ N) {t : List Int} {b : Int} (ht60 : t.length ≤ 60) : ∀ (m n : Nat) (k v c : Int) (S : s_M) (T : Int → List Int), TX S T → T 82 = t → 0 ≤ k → k + m = (t.length : Int) → 0 ≤ v ∧ v ≤ k → 0 ≤ c ∧ c ≤ k → m < n → ∃ S', A_prefix_l13 N n b v c k S = some (0, S') ∧ TX S' (lset T 84 (it cbst ((it (cst t b) m k (v, c, T 84)).1 - 0).toNat 0 (it (cst t b) m k (v, c, T 84)).2.2)) ∧ exT S S'
  | m, 0, k, v, c, S, T, h, hT, h0, h1, hv, hc, h2 => absurd h2 (Nat.not_lt_zero _)
  | 0, n + 1, k, v, c, S, T, h, hT, h0, h1, hv, hc, h2 => by
    have hl := h.len (k := 82) (by decide)
    rw [hT] at hl
    obtain ⟨S1, a1, a2, a3⟩ := p_prel2 (N := N) (o := v) (v - 0).toNat N 0 S T h (by omega) (by omega) (by omega) (by omega)
    exact ⟨S1, by rw [A_prefix_l13_e, if_neg (by omega), A_prefix_j106_e]; exact a1, a2, a3⟩
  | m + 1, n + 1, k, v, c, S, T, h, hT, h0, h1, hv, hc, h2 => by
    have hl := h.len (k := 82) (by decide)
    rw [hT] at hl
    have ha := p_att (N := N) h (t := 82) (k := k) (by decide) (by rw [hT]; exact ⟨h0, by omega⟩)
    rw [hT] at ha
    by_cases e : c < b
    · obtain ⟨S1, a1, a2, a3⟩ := p_add (N := N) h (t := 84) (c := tg t k) (by decide)
      have hlev := p_lev_rng (v := v) (c := tg t k) (i := k) hv
      have hcn : 0 ≤ (if p_brc (tg t k) = true then c else c + 1) ∧ (if p_brc (tg t k) = true then c else c + 1) ≤ k + 1 := by
        split <;> omega
      obtain ⟨S2, b1, b2, b3⟩ := p_prel (t := t) hN ht60 m n (k + 1) (p_lev v (tg t k)) (if p_brc (tg t k) = true then c else c + 1) S1 _ a2 (by rw [lset_ne (by decide)]; exact hT) (by omega) (by omega) hlev hcn (by omega)
      have es : cst t b k (v, c, T 84) = (p_lev v (tg t k), (if p_brc (tg t k) = true then c else c + 1), ta 60 (T 84) (tg t k)) := if_pos e
      rw [lset_at, lset_lset, ← es] at b2
      refine ⟨S2, ?_, b2, a3.trans b3⟩
      rw [A_prefix_l13_e, if_pos (by omega), if_pos e, bnd_e ha, lev_eq, brc_eq, chk_e (by omega), chk_e (by omega), bnd_e a1, chk_e (by omega)]
      exact b1
    · obtain ⟨S1, a1, a2, a3⟩ := p_prel2 (N := N) (o := v) (v - 0).toNat N 0 S T h (by omega) (by omega) (by omega) (by omega)
      refine ⟨S1, by rw [A_prefix_l13_e, if_pos (by omega), if_neg e, A_prefix_j106_e]; exact a1, ?_, a3⟩
      rw [it_abs (cst t b) (s := (v, c, T 84)) (fun j => if_neg e)]
      exact a2
theorem p_prefix {N : Nat} (hN : 100 ≤ N) {S : s_M} {T : Int → List Int} (h : TX S T) {b : Int} : ∃ S', A_prefix N b S = some (0, S') ∧ TX S' (lset T 84 (cof (T 82) b)) ∧ exT S S' := by
  have hl := h.len (k := 82) (by decide)
  obtain ⟨c1, c2⟩ := h.clear (t := 84)
  obtain ⟨S1, a1, a2, a3⟩ := p_prel (N := N) hN (t := T 82) (b := b) hl.2 (T 82).length N 0 0 0 (m_s S 3 84 0) _ c1 (lset_ne (by decide)) (by omega) (by omega) (by omega) (by omega) (by omega)
  rw [lset_at, lset_lset] at a2
  refine ⟨S1, by rw [A_prefix_e, bnd_e (p_clear (by decide))]; exact a1, ?_, c2.trans a3⟩
  unfold cof
  rw [show (((T 82).length : Int) - 0).toNat = (T 82).length by omega]
  exact a2
theorem nlet {c : Int} (h : p_let c = false) : p_upp c = c ∧ p_low c = c := by
  unfold p_let at h
  simp only [Bool.or_eq_false_iff] at h
  exact ⟨if_neg (bnf h.1), if_neg (bnf h.2)⟩
theorem cap_arg {how v c k : Int} {b : Bool} : (if (if v = 0 then (1 : Int) else 0) = 0 then (c : Int) else (if how = 0 then (if (if s_b b = 0 then (0 : Int) else (if k = 0 then (1 : Int) else (if c = 32 then (0 : Int) else 1))) = 0 then (if how = 2 then (p_upp c : Int) else (p_low c)) else c : Int) else (if how = 2 then (p_upp c : Int) else (p_low c)))) = (if 0 < p_lev v c ∨ (b = true ∧ how = 0) then c else if how = 2 then p_upp c else p_low c) ∨ v < 0 := by
  by_cases hv : v < 0
  · exact Or.inr hv
  · left
    cases hl : p_let c with
    | false =>
      obtain ⟨u1, u2⟩ := nlet hl
      rw [u1, u2]
      repeat' split
      all_goals rfl
    | true =>
      have hc : c ≠ 123 ∧ c ≠ 125 ∧ c ≠ 32 := by
        simp only [p_let, p_sml, p_cap, Bool.or_eq_true, decide_eq_true_eq] at hl
        omega
      have hp : p_lev v c = v := (if_neg hc.1).trans (if_neg (fun z => hc.2.1 z.1))
      rw [hp, if_neg hc.2.2]
      by_cases v0 : v = 0
      · rw [if_pos v0, if_neg (by decide)]
        by_cases h0 : how = 0
        · rw [if_pos h0]
          cases b with
          | true =>
            rw [show s_b true = 1 from rfl, if_neg (show ¬ (1 : Int) = 0 by decide), show (if k = 0 then (1 : Int) else 1) = 1 from by split <;> rfl, if_neg (show ¬ (1 : Int) = 0 by decide), if_pos (Or.inr ⟨rfl, h0⟩)]
          | false =>
            rw [show s_b false = 0 from rfl, if_pos (show (0 : Int) = 0 from rfl), if_pos (show (0 : Int) = 0 from rfl), if_neg (show ¬ (0 < v ∨ (false = true ∧ how = 0)) from fun z => z.elim (fun z => by omega) (fun z => Bool.noConfusion z.1))]
        · rw [if_neg h0, if_neg (show ¬ (0 < v ∨ (b = true ∧ how = 0)) from fun z => z.elim (fun z => by omega) (fun z => h0 z.2))]
      · rw [if_neg v0, if_pos rfl, if_pos (Or.inl (by omega))]
theorem cap_leave {v c k : Int} {b : Bool} (hc : c ≠ 10) (hv : 0 ≤ v) : (if (if v = 0 then (1 : Int) else 0) = 0 then (if s_b b = 0 then (0 : Int) else (if 0 < k then (if c = 32 then (1 : Int) else 0 : Int) else 0) : Int) else (if c = 58 then (1 : Int) else (if s_b b = 0 then (0 : Int) else (if 0 < k then (if c = 32 then (1 : Int) else 0 : Int) else 0)))) = s_b (decide (c = 58 ∧ p_lev v c = 0) || (b && (p_bl c && decide (0 < k)))) := by
  have hp : c = 58 → p_lev v c = v := fun z => (if_neg (by omega)).trans (if_neg (by omega))
  have hb : p_bl c = decide (c = 32) := by
    unfold p_bl
    rw [decide_eq_decide]
    omega
  rw [hb]
  have inner : (if s_b b = 0 then (0 : Int) else (if 0 < k then (if c = 32 then (1 : Int) else 0 : Int) else 0)) = s_b (b && (decide (c = 32) && decide (0 < k))) := by
    cases b with
    | false => rfl
    | true =>
      rw [if_neg (by decide), Bool.true_and]
      by_cases k0 : 0 < k
      · rw [if_pos k0, decide_eq_true k0, Bool.and_true]
        by_cases c2 : c = 32
        · rw [if_pos c2, decide_eq_true c2]; rfl
        · rw [if_neg c2, decide_eq_false c2]; rfl
      · rw [if_neg k0, decide_eq_false k0, Bool.and_false]
        rfl
  rw [inner]
  by_cases v0 : v = 0
  · rw [if_pos v0, if_neg (by decide)]
    by_cases c5 : c = 58
    · rw [if_pos c5, decide_eq_true ⟨c5, (hp c5).trans v0⟩, Bool.true_or]
      rfl
    · rw [if_neg c5, decide_eq_false (show ¬ (c = 58 ∧ p_lev v c = 0) from fun z => c5 z.1), Bool.false_or]
  · rw [if_neg v0, if_pos rfl, decide_eq_false (show ¬ (c = 58 ∧ p_lev v c = 0) from fun z => v0 ((hp z.1).symm.trans z.2)), Bool.false_or]
theorem p_capl {N : Nat} {t : List Int} {how : Int} (hp : prt t) : ∀ (m n : Nat) (k v : Int) (b : Bool) (S : s_M) (T : Int → List Int), TX S T → T 82 = t → 0 ≤ k → k + m = (t.length : Int) → 0 ≤ v ∧ v ≤ k → m < n → ∃ S', A_capitals_l13 N n how v (s_b b) k S = some (0, S') ∧ TX S' (lset T 84 (it (kst t how) m k (v, b, T 84)).2.2) ∧ exT S S'
  | m, 0, k, v, b, S, T, h, hT, h0, h1, hv, h2 => absurd h2 (Nat.not_lt_zero _)
  | 0, n + 1, k, v, b, S, T, h, hT, h0, h1, hv, h2 => by
    have hl := h.len (k := 82) (by decide)
    rw [hT] at hl
    refine ⟨S, by rw [A_capitals_l13_e, if_neg (by omega)], ?_, exT.refl S⟩
    show TX S (lset T 84 (T 84))
    rw [lset_self]
    exact h
  | m + 1, n + 1, k, v, b, S, T, h, hT, h0, h1, hv, h2 => by
    have hl := h.len (k := 82) (by decide)
    rw [hT] at hl
    have ha := p_att (N := N) h (t := 82) (k := k) (by decide) (by rw [hT]; exact ⟨h0, by omega⟩)
    rw [hT] at ha
    have hc := hp k h0 (by omega)
    have hlev := p_lev_rng (v := v) (c := tg t k) (i := k) hv
    have hA := (cap_arg (how := how) (v := v) (c := tg t k) (k := k) (b := b)).resolve_right (by omega)
    have hL := cap_leave (v := v) (c := tg t k) (k := k) (b := b) (by omega) hv.1
    obtain ⟨S1, a1, a2, a3⟩ := p_add (N := N) h (t := 84) (c := if 0 < p_lev v (tg t k) ∨ (b = true ∧ how = 0) then tg t k else if how = 2 then p_upp (tg t k) else p_low (tg t k)) (by decide)
    obtain ⟨S2, b1, b2, b3⟩ := p_capl (t := t) hp m n (k + 1) (p_lev v (tg t k)) (decide (tg t k = 58 ∧ p_lev v (tg t k) = 0) || (b && (p_bl (tg t k) && decide (0 < k)))) S1 _ a2 (by rw [lset_ne (by decide)]; exact hT) (by omega) (by omega) hlev (by omega)
    rw [lset_at, lset_lset] at b2
    refine ⟨S2, ?_, b2, a3.trans b3⟩
    rw [A_capitals_l13_e, if_pos (by omega), bnd_e ha, lev_eq, chk_e (by omega), hA, bnd_e a1, chk_e (by omega), hL]
    exact b1
theorem p_capitals {N : Nat} (hN : 100 ≤ N) {S : s_M} {T : Int → List Int} (h : TX S T) {how : Int} (hp : prt (T 82)) : ∃ S', A_capitals N how S = some (0, S') ∧ TX S' (lset T 84 (kof (T 82) how)) ∧ exT S S' := by
  have hl := h.len (k := 82) (by decide)
  obtain ⟨c1, c2⟩ := h.clear (t := 84)
  obtain ⟨S1, a1, a2, a3⟩ := p_capl (N := N) (t := T 82) (how := how) hp (T 82).length N 0 0 true (m_s S 3 84 0) _ c1 (lset_ne (by decide)) (by omega) (by omega) (by omega) (by omega)
  rw [lset_at, lset_lset] at a2
  refine ⟨S1, by rw [A_capitals_e, bnd_e (p_clear (by decide))]; exact a1, ?_, c2.trans a3⟩
  unfold kof
  rw [show (((T 82).length : Int) - 0).toNat = (T 82).length by omega]
  exact a2
