/-- where a line breaks: the last space up to 30, else the first behind it -/
def bps (t : List Int) (i : Int) (s : Bool × Int) : Bool × Int := if s.1 = true then s else if 30 < i ∧ 0 ≤ s.2 then (true, s.2) else if tg t i = 32 then (false, i) else s
def bpl (t : List Int) : Int := (it (bps t) ((t.length : Int) - 3).toNat 3 (false, -1)).2
theorem bpl_rng (t : List Int) : bpl t = -1 ∨ (3 ≤ bpl t ∧ bpl t < t.length) := by
  have key : ∀ (m : Nat) (i : Int) (s : Bool × Int), 3 ≤ i → i + m ≤ t.length ∨ m = 0 → (s.2 = -1 ∨ (3 ≤ s.2 ∧ s.2 < t.length)) → ((it (bps t) m i s).2 = -1 ∨ (3 ≤ (it (bps t) m i s).2 ∧ (it (bps t) m i s).2 < t.length)) := by
    intro m
    induction m with
    | zero => intro i s _ _ hs; exact hs
    | succ m ih =>
      intro i s hi hm hs
      refine ih (i + 1) (bps t i s) (by omega) (by omega) ?_
      unfold bps
      split
      · exact hs
      · split
        · exact hs
        · split
          · right
            show 3 ≤ i ∧ i < t.length
            omega
          · exact hs
  exact key _ 3 (false, -1) (by omega) (by omega) (Or.inl rfl)
/-- cells that a page may still make for lines -/
def kc (a b : Int) : Nat := 2 * ((24 - a).toNat - (24 - b).toNat)
theorem kc_add {a b c : Int} (h1 : a ≤ b) (h2 : b ≤ c) : kc a b + kc b c = kc a c := by
  unfold kc
  omega
theorem kc_self (a : Int) : kc a a = 0 := by
  unfold kc
  omega
/-- the kept lines: line i at A i, its text K i; all in [lb, ub) -/
def pgl (sh : s_S) (M : s_M) (q lb ub n : Int) (A : Int → Int) (K : Int → List Int) : Prop := ∀ i, 0 ≤ i → i < n → i < 24 → M q i = A i ∧ tv sh M (A i) (K i).length (K i) ∧ lb ≤ A i ∧ A i + 2 ≤ ub
theorem pgl.mv {sh sh' : s_S} {M M' : s_M} {q lb ub n : Int} {A : Int → Int} {K : Int → List Int} (h : pgl sh M q lb ub n A K) (hq : M' q = M q) (hu : as_ lb ub sh M sh' M') : pgl sh' M' q lb ub n A K := fun i h0 h1 h2 => by
  obtain ⟨g1, g2, g3, g4⟩ := h i h0 h1 h2
  exact ⟨by rw [hq]; exact g1, g2.mv (fun z z1 z2 => hu z (by omega) (by omega)), g3, g4⟩
theorem pgl.push {sh : s_S} {M : s_M} {q lb ub n : Int} {A : Int → Int} {K : Int → List Int} (h : pgl sh M q lb ub n A K) {a ub' : Int} {u : List Int} (hx : tv sh M a u.length u) (h1 : lb ≤ a) (h2 : a + 2 ≤ ub') (h3 : ub ≤ ub') (hq : q < lb) : pgl sh (m_s M q n a) q lb ub' (n + 1) (rset A n a) (lset K n u) := fun i i0 i1 i2 => by
  unfold rset lset
  by_cases e : i = n
  · subst e
    rw [if_pos rfl, if_pos rfl]
    exact ⟨m_s_s, hx.mv (fun z z1 z2 => ⟨rfl, m_s_a (by omega)⟩), h1, h2⟩
  · rw [if_neg e, if_neg e]
    obtain ⟨g1, g2, g3, g4⟩ := h i i0 (by omega) i2
    exact ⟨(m_s_n (fun q => e q.2)).trans g1, g2.mv (fun z z1 z2 => ⟨rfl, m_s_a (by omega)⟩), g3, by omega⟩
theorem pgl.skip {sh : s_S} {M : s_M} {q lb ub n : Int} {A : Int → Int} {K : Int → List Int} (h : pgl sh M q lb ub n A K) (hn : 24 ≤ n) : pgl sh M q lb ub (n + 1) A K := fun i i0 i1 i2 => h i i0 (by omega) i2
theorem pg0.line {sh : s_S} {M M' : s_M} {p n : Int} {t : List Int} (h : pg0 sh M p n t) (e0 : ∀ j : Int, j ≠ 2 → M' p j = M p j) (e1 : M' p 2 = n + 1) (e2 : as_ (p + 1) (p + 3) sh M sh M') : pg0 sh M' p (n + 1) t := by
  obtain ⟨q1, q2, q3, q4, q5, q6, q7, q8⟩ := h
  exact ⟨q1, q2, (e0 _ (by decide)).trans q3, (e0 _ (by decide)).trans q4, e1, by omega, q7, q8.mv (fun z z1 z2 => e2 z (by omega) (by omega))⟩
set_option maxHeartbeats 4000000 in
set_option maxRecDepth 100000 in
theorem c_Page_breakPlace (l : Launch) (D : va_G) {sh : s_S} {M : s_M} {sz p n : Int} {t : List Int} (h : pg0 sh M p n t) : Sp l D y_Page_breakPlace prog_6_method_8_code 3 (some .int) 2 0 0 [vr p] sh M sz (pF (some (vi (bpl t))) sh M sz) := by
  have hh := h
  obtain ⟨h1, h2, h3, h4, h5, h6, h7, h8⟩ := h
  have hln := h8.len
  refine Sp.ofGo (own := "CiteForge$Page") (nm := "breakPlace") (by decide) rfl rfl (Nat.le_of_ble_eq_true rfl) (lv := [(0, vr p)]) rfl ?_
  intro g X
  refine go_iconst (v := (-1)) X d_Page_breakPlace_0 ?_
  refine go_istore_n (lv' := [(1, vi (-1)), (0, vr p)]) X d_Page_breakPlace_1 rfl (by decide) rfl ?_
  refine go_iconst (v := 3) X d_Page_breakPlace_2 ?_
  refine go_istore_n (lv' := [(2, vi 3), (1, vi (-1)), (0, vr p)]) X d_Page_breakPlace_3 rfl (by decide) rfl ?_
  have loop : ∀ (fuel : Nat) (i : Int) (c : Int), (3 ≤ i) → (i ≤ t.length ∨ i = 3) → (-1 ≤ c ∧ c < i) → ((it (bps t) ((t.length : Int) - i).toNat i (false, c)).2 = bpl t) → ((t.length : Int) - i).toNat < fuel → Go g 0 0 sh M sz 4 [(0, vr p), (1, vi c), (2, vi i)] [] := by
    intro fuel
    induction fuel with
    | zero => intro i c hi hi2 hc hp hm_loop; exact absurd hm_loop (Nat.not_lt_zero _)
    | succ fuel ih_loop =>
      intro i c hi hi2 hc hp hm_loop
      refine go_iload_n X d_Page_breakPlace_4 rfl rfl ?_
      refine go_aload_n X d_Page_breakPlace_5 rfl rfl ?_
      refine go_get (v := vr (p + 1)) X f_Page_14 h1 rfl d_Page_breakPlace_6 (s_vref h3 (by omega)) ?_
      refine go_cVf (st2 := [vi (t.length : Int), vi i]) (r := [vi i]) X k_Page_26 (k_Text_size l D h8) h8.1.1 rfl rfl (by omega) (Nat.le_of_ble_eq_true rfl) d_Page_breakPlace_9 (by omega) (by omega) rfl ?_
      refine go_icmp_ge (tgt := 48) X d_Page_breakPlace_12 rfl (by omega) (by omega) (fun hq1 => ?_) (fun hq1 => ?_)
      · skip
        refine go_iload_n X d_Page_breakPlace_48 rfl rfl ?_
        refine go_iret X d_Page_breakPlace_49 rfl ?_ (by omega) (by omega) ?_
        · rfl
        refine ⟨?_, rfl, rfl, rfl⟩
        rw [← hp, it_end (bps t) (by omega)]
      · skip
        refine go_iload_n X d_Page_breakPlace_15 rfl rfl ?_
        refine go_bipush (v := 30) X d_Page_breakPlace_16 (by decide) ?_
        refine go_icmp_le (tgt := 27) X d_Page_breakPlace_18 rfl (by omega) (by omega) (fun hq2 => ?_) (fun hq2 => ?_)
        · skip
          refine go_aload_n X d_Page_breakPlace_27 rfl rfl ?_
          refine go_get (v := vr (p + 1)) X f_Page_14 h1 rfl d_Page_breakPlace_28 (s_vref h3 (by omega)) ?_
          refine go_iload_n X d_Page_breakPlace_31 rfl rfl ?_
          refine go_cVf (st2 := [vi (tg t i)]) (r := []) X k_Page_46 (k_Text_at l D h8 (by omega)) h8.1.1 rfl rfl (by omega) (Nat.le_of_ble_eq_true rfl) d_Page_breakPlace_32 (by omega) (by omega) rfl ?_
          have hch := h8.rng i
          refine go_bipush (v := 32) X d_Page_breakPlace_35 (by decide) ?_
          refine go_icmp_ne (tgt := 42) X d_Page_breakPlace_37 rfl (by omega) (by omega) (fun hq3 => ?_) (fun hq3 => ?_)
          · skip
            have hs0 : bps t i (false, c) = (false, c) := by
              unfold bps
              rw [if_neg (show ¬ (false : Bool) = true by decide), if_neg (show ¬ (30 < i ∧ 0 ≤ c) by omega), if_neg hq3]
            have hn : (it (bps t) ((t.length : Int) - (i + 1)).toNat (i + 1) (false, c)).2 = bpl t := by rw [it_step (bps t) (by omega), hs0] at hp; exact hp
            refine go_iinc (v := 1) (x := i) (lv' := [(2, vi (i + 1)), (0, vr p), (1, vi c)]) X d_Page_breakPlace_42 rfl (by decide) rfl ?_
            refine go_goto (tgt := 4) X d_Page_breakPlace_45 rfl ?_
            refine go_lv (lv' := [(0, vr p), (1, vi c), (2, vi (i + 1))]) X [1, 2, 0] rfl ?_
            exact ih_loop (i + 1) c (by omega) (by omega) (by omega) hn (by omega)
          · skip
            refine go_iload_n X d_Page_breakPlace_40 rfl rfl ?_
            refine go_istore_n (lv' := [(1, vi i), (0, vr p), (2, vi i)]) X d_Page_breakPlace_41 rfl (by decide) rfl ?_
            have hs0 : bps t i (false, c) = (false, i) := by
              unfold bps
              rw [if_neg (show ¬ (false : Bool) = true by decide), if_neg (show ¬ (30 < i ∧ 0 ≤ c) by omega), if_pos hq3]
            have hn : (it (bps t) ((t.length : Int) - (i + 1)).toNat (i + 1) (false, i)).2 = bpl t := by rw [it_step (bps t) (by omega), hs0] at hp; exact hp
            refine go_iinc (v := 1) (x := i) (lv' := [(2, vi (i + 1)), (1, vi i), (0, vr p)]) X d_Page_breakPlace_42 rfl (by decide) rfl ?_
            refine go_goto (tgt := 4) X d_Page_breakPlace_45 rfl ?_
            refine go_lv (lv' := [(0, vr p), (1, vi i), (2, vi (i + 1))]) X [2, 1, 0] rfl ?_
            exact ih_loop (i + 1) i (by omega) (by omega) (by omega) hn (by omega)
        · skip
          refine go_iload_n X d_Page_breakPlace_21 rfl rfl ?_
          refine go_if_lt (tgt := 27) X d_Page_breakPlace_22 rfl (by omega) (fun hq4 => ?_) (fun hq4 => ?_)
          · skip
            refine go_aload_n X d_Page_breakPlace_27 rfl rfl ?_
            refine go_get (v := vr (p + 1)) X f_Page_14 h1 rfl d_Page_breakPlace_28 (s_vref h3 (by omega)) ?_
            refine go_iload_n X d_Page_breakPlace_31 rfl rfl ?_
            refine go_cVf (st2 := [vi (tg t i)]) (r := []) X k_Page_46 (k_Text_at l D h8 (by omega)) h8.1.1 rfl rfl (by omega) (Nat.le_of_ble_eq_true rfl) d_Page_breakPlace_32 (by omega) (by omega) rfl ?_
            have hch := h8.rng i
            refine go_bipush (v := 32) X d_Page_breakPlace_35 (by decide) ?_
            refine go_icmp_ne (tgt := 42) X d_Page_breakPlace_37 rfl (by omega) (by omega) (fun hq5 => ?_) (fun hq5 => ?_)
            · skip
              have hs0 : bps t i (false, c) = (false, c) := by
                unfold bps
                rw [if_neg (show ¬ (false : Bool) = true by decide), if_neg (show ¬ (30 < i ∧ 0 ≤ c) by omega), if_neg hq5]
              have hn : (it (bps t) ((t.length : Int) - (i + 1)).toNat (i + 1) (false, c)).2 = bpl t := by rw [it_step (bps t) (by omega), hs0] at hp; exact hp
              refine go_iinc (v := 1) (x := i) (lv' := [(2, vi (i + 1)), (0, vr p), (1, vi c)]) X d_Page_breakPlace_42 rfl (by decide) rfl ?_
              refine go_goto (tgt := 4) X d_Page_breakPlace_45 rfl ?_
              refine go_lv (lv' := [(0, vr p), (1, vi c), (2, vi (i + 1))]) X [1, 2, 0] rfl ?_
              exact ih_loop (i + 1) c (by omega) (by omega) (by omega) hn (by omega)
            · skip
              refine go_iload_n X d_Page_breakPlace_40 rfl rfl ?_
              refine go_istore_n (lv' := [(1, vi i), (0, vr p), (2, vi i)]) X d_Page_breakPlace_41 rfl (by decide) rfl ?_
              have hs0 : bps t i (false, c) = (false, i) := by
                unfold bps
                rw [if_neg (show ¬ (false : Bool) = true by decide), if_neg (show ¬ (30 < i ∧ 0 ≤ c) by omega), if_pos hq5]
              have hn : (it (bps t) ((t.length : Int) - (i + 1)).toNat (i + 1) (false, i)).2 = bpl t := by rw [it_step (bps t) (by omega), hs0] at hp; exact hp
              refine go_iinc (v := 1) (x := i) (lv' := [(2, vi (i + 1)), (1, vi i), (0, vr p)]) X d_Page_breakPlace_42 rfl (by decide) rfl ?_
              refine go_goto (tgt := 4) X d_Page_breakPlace_45 rfl ?_
              refine go_lv (lv' := [(0, vr p), (1, vi i), (2, vi (i + 1))]) X [2, 1, 0] rfl ?_
              exact ih_loop (i + 1) i (by omega) (by omega) (by omega) hn (by omega)
          · skip
            refine go_iload_n X d_Page_breakPlace_25 rfl rfl ?_
            refine go_iret X d_Page_breakPlace_26 rfl ?_ (by omega) (by omega) ?_
            · rfl
            refine ⟨?_, rfl, rfl, rfl⟩
            have hs0 : bps t i (false, c) = (true, c) := by
              unfold bps
              rw [if_neg (show ¬ (false : Bool) = true by decide), if_pos (show 30 < i ∧ 0 ≤ c by omega)]
            rw [← hp, it_step (bps t) (by omega), hs0, it_abs (bps t) (s := (true, c)) (fun j => if_pos rfl)]
  refine go_lv (lv' := [(0, vr p), (1, vi (-1)), (2, vi 3)]) X [2, 1, 0] rfl ?_
  exact loop _ 3 (-1) (by omega) (by omega) (by omega) rfl (Nat.lt_succ_self _)
