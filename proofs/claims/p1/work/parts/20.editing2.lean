/-- capitals: the level, whether the next stays, the text -/
def kst (t : List Int) (m : Int) (i : Int) (s : Int × Bool × List Int) : Int × Bool × List Int :=
  (p_lev s.1 (tg t i), decide (tg t i = 58 ∧ p_lev s.1 (tg t i) = 0) || (s.2.1 && (p_bl (tg t i) && decide (0 < i))),
   ta 60 s.2.2 (if 0 < p_lev s.1 (tg t i) ∨ (s.2.1 = true ∧ m = 0) then tg t i else if m = 2 then p_upp (tg t i) else p_low (tg t i)))
def kof (t : List Int) (m : Int) : List Int := (it (kst t m) ((t.length : Int) - 0).toNat 0 (0, true, [])).2.2
set_option maxHeartbeats 4000000 in
set_option maxRecDepth 100000 in
theorem c_changeCapitals (l : Launch) (D : va_G) {sh : s_S} {M : s_M} {sz a r : Int} {N : Nat} {t u0 : List Int} (ha : tv sh M a N t) (hr : tv sh M r 60 u0) (hne : a + 1 < r) {m : Int} (hm : -2147483648 ≤ m ∧ m < 2147483648) : Sp l D y_Editing_changeCapitals prog_3_method_2_code 8 none 3 0 0 [vr a, vi m, vr r] sh M sz (fun v sh' M' sz' => v = none ∧ sh' = sh ∧ sz' = sz ∧ tv sh M' r 60 (kof t m) ∧ fr (fun z => r ≤ z ∧ z ≤ r + 1) M M') := by
  have hln := ha.len
  have hch := ha.rng
  have ha0 := ha.1.2.2.2.2.2.2.1
  refine Sp.ofGo (own := "CiteForge$Editing") (nm := "changeCapitals") (by decide) rfl rfl (Nat.le_of_ble_eq_true rfl) (lv := [(0, vr a), (1, vi m), (2, vr r)]) rfl ?_
  intro g X
  refine go_aload_n X d_Editing_changeCapitals_0 rfl rfl ?_
  refine go_cV (st2 := []) (r := []) X k_Editing_7 (k_Text_reset l D hr) hr.1.1 rfl rfl (by omega) (Nat.le_of_ble_eq_true rfl) d_Editing_changeCapitals_1 (by omega) (by omega) (fun v sh' M1 sz' hp2 => ?_)
  obtain ⟨e3, e4, e5, tv6, fr7⟩ := hp2
  subst e3
  rw [e4, e5]
  show Go g 0 0 sh M1 sz 4 [(0, vr a), (1, vi m), (2, vr r)] []
  have tv8 := ha.kept (fr7 a (by omega)) (fr7 (a + 1) (by omega))
  have fr9 : fr (fun z => r ≤ z ∧ z ≤ r + 1) M M1 := fun z hz => by
    have hz1 : ¬ (r ≤ z ∧ z ≤ r + 1) := hz
    exact (fr7 z (by omega))
  refine go_iconst (v := 0) X d_Editing_changeCapitals_4 ?_
  refine go_istore_n (lv' := [(3, vi 0), (0, vr a), (1, vi m), (2, vr r)]) X d_Editing_changeCapitals_5 rfl (by decide) rfl ?_
  refine go_iconst (v := 1) X d_Editing_changeCapitals_6 ?_
  refine go_istore (lv' := [(4, vi 1), (3, vi 0), (0, vr a), (1, vi m), (2, vr r)]) X d_Editing_changeCapitals_7 (by decide) rfl ?_
  refine go_iconst (v := 0) X d_Editing_changeCapitals_9 ?_
  refine go_istore (lv' := [(5, vi 0), (4, vi 1), (3, vi 0), (0, vr a), (1, vi m), (2, vr r)]) X d_Editing_changeCapitals_10 (by decide) rfl ?_
  have loop : ∀ (fuel : Nat) (i : Int) (lev : Int) (st : Bool) (u : List Int) (Mx : s_M), (0 ≤ i) → (i ≤ t.length) → (0 ≤ lev ∧ lev ≤ i) → (tv sh Mx r 60 u) → (fr (fun z => r ≤ z ∧ z ≤ r + 1) M Mx) → (it (kst t m) ((t.length : Int) - i).toNat i (lev, st, u) = it (kst t m) ((t.length : Int) - 0).toNat 0 (0, true, [])) → ((t.length : Int) - i).toNat < fuel → Go g 0 0 sh Mx sz 12 [(0, vr a), (1, vi m), (2, vr r), (3, vi lev), (4, vi (s_b st)), (5, vi i)] [] := by
    intro fuel
    induction fuel with
    | zero => intro i lev st u Mx hi hi2 hl hu hf hp hm_loop; exact absurd hm_loop (Nat.not_lt_zero _)
    | succ fuel ih_loop =>
      intro i lev st u Mx hi hi2 hl hu hf hp hm_loop
      have ha1 := ha.kept (hf a (by omega)) (hf (a + 1) (by omega))
      refine go_iload X d_Editing_changeCapitals_12 rfl ?_
      refine go_aload_n X d_Editing_changeCapitals_14 rfl rfl ?_
      refine go_cVf (st2 := [vi (t.length : Int), vi i]) (r := [vi i]) X k_Editing_12 (k_Text_size l D ha1) ha.1.1 rfl rfl (by omega) (Nat.le_of_ble_eq_true rfl) d_Editing_changeCapitals_15 (by omega) (by omega) rfl ?_
      refine go_icmp_ge (tgt := 134) X d_Editing_changeCapitals_18 rfl (by omega) (by omega) (fun hq10 => ?_) (fun hq10 => ?_)
      · skip
        refine go_vret X d_Editing_changeCapitals_134 rfl (by omega) (by omega) ?_
        have e6 : kof t m = u := by unfold kof; rw [it_fin (kst t m) hp (by omega)]
        rw [e6]
        exact ⟨rfl, rfl, rfl, hu, hf⟩
      · skip
        refine go_aload_n X d_Editing_changeCapitals_21 rfl rfl ?_
        refine go_iload X d_Editing_changeCapitals_22 rfl ?_
        refine go_cVf (st2 := [vi (tg t i)]) (r := []) X k_Editing_16 (k_Text_at l D ha1 (by omega)) ha.1.1 rfl rfl (by omega) (Nat.le_of_ble_eq_true rfl) d_Editing_changeCapitals_24 (by omega) (by omega) rfl ?_
        have hc0 := hch i
        have hlo := p_low_r hc0
        have hup := p_upp_r hc0
        refine go_istore (lv' := [(6, vi (tg t i)), (0, vr a), (1, vi m), (2, vr r), (3, vi lev), (4, vi (s_b st)), (5, vi i)]) X d_Editing_changeCapitals_27 (by decide) rfl ?_
        refine go_iload_n X d_Editing_changeCapitals_29 rfl rfl ?_
        refine go_iload X d_Editing_changeCapitals_30 rfl ?_
        refine go_cSf (st2 := [vi (p_lev lev (tg t i))]) (r := []) X k_Editing_20 (c_levelBehind l D (by omega) (by omega)) rfl rfl (by omega) (Nat.le_of_ble_eq_true rfl) d_Editing_changeCapitals_32 (by omega) (by omega) rfl ?_
        refine go_istore_n (lv' := [(3, vi (p_lev lev (tg t i))), (6, vi (tg t i)), (0, vr a), (1, vi m), (2, vr r), (4, vi (s_b st)), (5, vi i)]) X d_Editing_changeCapitals_35 rfl (by decide) rfl ?_
        have hl2 := p_lev_r (c := tg t i) hl.1
        have join80 : ∀ (uj : List Int) (Mj : s_M), (tv sh Mj r 60 uj) → (fr (fun z => r ≤ z ∧ z ≤ r + 1) M Mj) → (uj = ta 60 u (if 0 < p_lev lev (tg t i) ∨ (st = true ∧ m = 0) then tg t i else if m = 2 then p_upp (tg t i) else p_low (tg t i))) → Go g 0 0 sh Mj sz 80 [(3, vi (p_lev lev (tg t i))), (6, vi (tg t i)), (0, vr a), (1, vi m), (2, vr r), (4, vi (s_b st)), (5, vi i)] [] := by
          intro uj Mj huj hfj hcj
          refine go_iload X d_Editing_changeCapitals_80 rfl ?_
          refine go_bipush (v := 58) X d_Editing_changeCapitals_82 (by decide) ?_
          refine go_icmp_ne (tgt := 95) X d_Editing_changeCapitals_84 rfl (by omega) (by omega) (fun hq11 => ?_) (fun hq11 => ?_)
          · skip
            refine go_iconst (v := 0) X d_Editing_changeCapitals_95 ?_
            refine go_istore (lv' := [(7, vi 0), (3, vi (p_lev lev (tg t i))), (6, vi (tg t i)), (0, vr a), (1, vi m), (2, vr r), (4, vi (s_b st)), (5, vi i)]) X d_Editing_changeCapitals_96 (by decide) rfl ?_
            refine go_iload X d_Editing_changeCapitals_98 rfl ?_
            refine go_if_ne (tgt := 121) X d_Editing_changeCapitals_100 rfl (by omega) (fun h9 => absurd h9 (by decide)) (fun _ => ?_)
            refine go_iload X d_Editing_changeCapitals_103 rfl ?_
            refine go_ifb_eq (tgt := 125) X d_Editing_changeCapitals_105 rfl (fun hq12 => ?_) (fun hq12 => ?_)
            · skip
              refine go_iconst (v := 0) X d_Editing_changeCapitals_125 ?_
              refine go_istore (lv' := [(4, vi 0), (7, vi 0), (3, vi (p_lev lev (tg t i))), (6, vi (tg t i)), (0, vr a), (1, vi m), (2, vr r), (5, vi i)]) X d_Editing_changeCapitals_126 (by decide) rfl ?_
              have hs2 : (decide (tg t i = 58 ∧ p_lev lev (tg t i) = 0) || (st && (p_bl (tg t i) && decide (0 < i)))) = false := by
                simp only [Bool.or_eq_true, Bool.and_eq_true, Bool.or_eq_false_iff, Bool.and_eq_false_iff, decide_eq_true_eq, decide_eq_false_iff_not]
                exact ⟨(fun z => hq11 z.1), Or.inl hq12⟩
              have hn := it_nxt (kst t m) (s' := (p_lev lev (tg t i), false, uj)) hp (by omega) (by unfold kst; rw [hs2, ← hcj])
              refine go_iinc (v := 1) (x := i) (lv' := [(5, vi (i + 1)), (4, vi 0), (7, vi 0), (3, vi (p_lev lev (tg t i))), (6, vi (tg t i)), (0, vr a), (1, vi m), (2, vr r)]) X d_Editing_changeCapitals_128 rfl (by decide) rfl ?_
              refine go_goto (tgt := 12) X d_Editing_changeCapitals_131 rfl ?_
              refine go_lv (lv' := [(0, vr a), (1, vi m), (2, vr r), (3, vi (p_lev lev (tg t i))), (4, vi 0), (5, vi (i + 1))]) X [5, 6, 7, 3, 1, 0] rfl ?_
              exact ih_loop (i + 1) (p_lev lev (tg t i)) false uj Mj (by omega) (by omega) (by omega) huj hfj hn (by omega)
            · skip
              refine go_iload X d_Editing_changeCapitals_108 rfl ?_
              refine go_cSf (st2 := [vi (s_b (p_bl (tg t i)))]) (r := []) X k_Editing_37 (c_isBlank l D (by omega)) rfl rfl (by omega) (Nat.le_of_ble_eq_true rfl) d_Editing_changeCapitals_110 (by omega) (by omega) rfl ?_
              refine go_ifb_eq (tgt := 125) X d_Editing_changeCapitals_113 rfl (fun hq13 => ?_) (fun hq13 => ?_)
              · skip
                refine go_iconst (v := 0) X d_Editing_changeCapitals_125 ?_
                refine go_istore (lv' := [(4, vi 0), (7, vi 0), (3, vi (p_lev lev (tg t i))), (6, vi (tg t i)), (0, vr a), (1, vi m), (2, vr r), (5, vi i)]) X d_Editing_changeCapitals_126 (by decide) rfl ?_
                have hs2 : (decide (tg t i = 58 ∧ p_lev lev (tg t i) = 0) || (st && (p_bl (tg t i) && decide (0 < i)))) = false := by
                  simp only [Bool.or_eq_true, Bool.and_eq_true, Bool.or_eq_false_iff, Bool.and_eq_false_iff, decide_eq_true_eq, decide_eq_false_iff_not]
                  exact ⟨(fun z => hq11 z.1), Or.inr (Or.inl hq13)⟩
                have hn := it_nxt (kst t m) (s' := (p_lev lev (tg t i), false, uj)) hp (by omega) (by unfold kst; rw [hs2, ← hcj])
                refine go_iinc (v := 1) (x := i) (lv' := [(5, vi (i + 1)), (4, vi 0), (7, vi 0), (3, vi (p_lev lev (tg t i))), (6, vi (tg t i)), (0, vr a), (1, vi m), (2, vr r)]) X d_Editing_changeCapitals_128 rfl (by decide) rfl ?_
                refine go_goto (tgt := 12) X d_Editing_changeCapitals_131 rfl ?_
                refine go_lv (lv' := [(0, vr a), (1, vi m), (2, vr r), (3, vi (p_lev lev (tg t i))), (4, vi 0), (5, vi (i + 1))]) X [5, 6, 7, 3, 1, 0] rfl ?_
                exact ih_loop (i + 1) (p_lev lev (tg t i)) false uj Mj (by omega) (by omega) (by omega) huj hfj hn (by omega)
              · skip
                refine go_iload X d_Editing_changeCapitals_116 rfl ?_
                refine go_if_le (tgt := 125) X d_Editing_changeCapitals_118 rfl (by omega) (fun hq14 => ?_) (fun hq14 => ?_)
                · skip
                  refine go_iconst (v := 0) X d_Editing_changeCapitals_125 ?_
                  refine go_istore (lv' := [(4, vi 0), (7, vi 0), (3, vi (p_lev lev (tg t i))), (6, vi (tg t i)), (0, vr a), (1, vi m), (2, vr r), (5, vi i)]) X d_Editing_changeCapitals_126 (by decide) rfl ?_
                  have hs2 : (decide (tg t i = 58 ∧ p_lev lev (tg t i) = 0) || (st && (p_bl (tg t i) && decide (0 < i)))) = false := by
                    simp only [Bool.or_eq_true, Bool.and_eq_true, Bool.or_eq_false_iff, Bool.and_eq_false_iff, decide_eq_true_eq, decide_eq_false_iff_not]
                    exact ⟨(fun z => hq11 z.1), Or.inr (Or.inr (by omega))⟩
                  have hn := it_nxt (kst t m) (s' := (p_lev lev (tg t i), false, uj)) hp (by omega) (by unfold kst; rw [hs2, ← hcj])
                  refine go_iinc (v := 1) (x := i) (lv' := [(5, vi (i + 1)), (4, vi 0), (7, vi 0), (3, vi (p_lev lev (tg t i))), (6, vi (tg t i)), (0, vr a), (1, vi m), (2, vr r)]) X d_Editing_changeCapitals_128 rfl (by decide) rfl ?_
                  refine go_goto (tgt := 12) X d_Editing_changeCapitals_131 rfl ?_
                  refine go_lv (lv' := [(0, vr a), (1, vi m), (2, vr r), (3, vi (p_lev lev (tg t i))), (4, vi 0), (5, vi (i + 1))]) X [5, 6, 7, 3, 1, 0] rfl ?_
                  exact ih_loop (i + 1) (p_lev lev (tg t i)) false uj Mj (by omega) (by omega) (by omega) huj hfj hn (by omega)
                · skip
                  refine go_iconst (v := 1) X d_Editing_changeCapitals_121 ?_
                  refine go_goto (tgt := 126) X d_Editing_changeCapitals_122 rfl ?_
                  refine go_istore (lv' := [(4, vi 1), (7, vi 0), (3, vi (p_lev lev (tg t i))), (6, vi (tg t i)), (0, vr a), (1, vi m), (2, vr r), (5, vi i)]) X d_Editing_changeCapitals_126 (by decide) rfl ?_
                  have hs2 : (decide (tg t i = 58 ∧ p_lev lev (tg t i) = 0) || (st && (p_bl (tg t i) && decide (0 < i)))) = true := by
                    simp only [Bool.or_eq_true, Bool.and_eq_true, Bool.or_eq_false_iff, Bool.and_eq_false_iff, decide_eq_true_eq, decide_eq_false_iff_not]
                    exact Or.inr ⟨hq12, hq13, by omega⟩
                  have hn := it_nxt (kst t m) (s' := (p_lev lev (tg t i), true, uj)) hp (by omega) (by unfold kst; rw [hs2, ← hcj])
                  refine go_iinc (v := 1) (x := i) (lv' := [(5, vi (i + 1)), (4, vi 1), (7, vi 0), (3, vi (p_lev lev (tg t i))), (6, vi (tg t i)), (0, vr a), (1, vi m), (2, vr r)]) X d_Editing_changeCapitals_128 rfl (by decide) rfl ?_
                  refine go_goto (tgt := 12) X d_Editing_changeCapitals_131 rfl ?_
                  refine go_lv (lv' := [(0, vr a), (1, vi m), (2, vr r), (3, vi (p_lev lev (tg t i))), (4, vi 1), (5, vi (i + 1))]) X [5, 6, 7, 3, 1, 0] rfl ?_
                  exact ih_loop (i + 1) (p_lev lev (tg t i)) true uj Mj (by omega) (by omega) (by omega) huj hfj hn (by omega)
          · skip
            refine go_iload_n X d_Editing_changeCapitals_87 rfl rfl ?_
            refine go_if_ne (tgt := 95) X d_Editing_changeCapitals_88 rfl (by omega) (fun hq15 => ?_) (fun hq15 => ?_)
            · skip
              refine go_iconst (v := 0) X d_Editing_changeCapitals_95 ?_
              refine go_istore (lv' := [(7, vi 0), (3, vi (p_lev lev (tg t i))), (6, vi (tg t i)), (0, vr a), (1, vi m), (2, vr r), (4, vi (s_b st)), (5, vi i)]) X d_Editing_changeCapitals_96 (by decide) rfl ?_
              refine go_iload X d_Editing_changeCapitals_98 rfl ?_
              refine go_if_ne (tgt := 121) X d_Editing_changeCapitals_100 rfl (by omega) (fun h9 => absurd h9 (by decide)) (fun _ => ?_)
              refine go_iload X d_Editing_changeCapitals_103 rfl ?_
              refine go_ifb_eq (tgt := 125) X d_Editing_changeCapitals_105 rfl (fun hq16 => ?_) (fun hq16 => ?_)
              · skip
                refine go_iconst (v := 0) X d_Editing_changeCapitals_125 ?_
                refine go_istore (lv' := [(4, vi 0), (7, vi 0), (3, vi (p_lev lev (tg t i))), (6, vi (tg t i)), (0, vr a), (1, vi m), (2, vr r), (5, vi i)]) X d_Editing_changeCapitals_126 (by decide) rfl ?_
                have hs2 : (decide (tg t i = 58 ∧ p_lev lev (tg t i) = 0) || (st && (p_bl (tg t i) && decide (0 < i)))) = false := by
                  simp only [Bool.or_eq_true, Bool.and_eq_true, Bool.or_eq_false_iff, Bool.and_eq_false_iff, decide_eq_true_eq, decide_eq_false_iff_not]
                  exact ⟨(fun z => hq15 z.2), Or.inl hq16⟩
                have hn := it_nxt (kst t m) (s' := (p_lev lev (tg t i), false, uj)) hp (by omega) (by unfold kst; rw [hs2, ← hcj])
                refine go_iinc (v := 1) (x := i) (lv' := [(5, vi (i + 1)), (4, vi 0), (7, vi 0), (3, vi (p_lev lev (tg t i))), (6, vi (tg t i)), (0, vr a), (1, vi m), (2, vr r)]) X d_Editing_changeCapitals_128 rfl (by decide) rfl ?_
                refine go_goto (tgt := 12) X d_Editing_changeCapitals_131 rfl ?_
                refine go_lv (lv' := [(0, vr a), (1, vi m), (2, vr r), (3, vi (p_lev lev (tg t i))), (4, vi 0), (5, vi (i + 1))]) X [5, 6, 7, 3, 1, 0] rfl ?_
                exact ih_loop (i + 1) (p_lev lev (tg t i)) false uj Mj (by omega) (by omega) (by omega) huj hfj hn (by omega)
              · skip
                refine go_iload X d_Editing_changeCapitals_108 rfl ?_
                refine go_cSf (st2 := [vi (s_b (p_bl (tg t i)))]) (r := []) X k_Editing_37 (c_isBlank l D (by omega)) rfl rfl (by omega) (Nat.le_of_ble_eq_true rfl) d_Editing_changeCapitals_110 (by omega) (by omega) rfl ?_
                refine go_ifb_eq (tgt := 125) X d_Editing_changeCapitals_113 rfl (fun hq17 => ?_) (fun hq17 => ?_)
                · skip
                  refine go_iconst (v := 0) X d_Editing_changeCapitals_125 ?_
                  refine go_istore (lv' := [(4, vi 0), (7, vi 0), (3, vi (p_lev lev (tg t i))), (6, vi (tg t i)), (0, vr a), (1, vi m), (2, vr r), (5, vi i)]) X d_Editing_changeCapitals_126 (by decide) rfl ?_
                  have hs2 : (decide (tg t i = 58 ∧ p_lev lev (tg t i) = 0) || (st && (p_bl (tg t i) && decide (0 < i)))) = false := by
                    simp only [Bool.or_eq_true, Bool.and_eq_true, Bool.or_eq_false_iff, Bool.and_eq_false_iff, decide_eq_true_eq, decide_eq_false_iff_not]
                    exact ⟨(fun z => hq15 z.2), Or.inr (Or.inl hq17)⟩
                  have hn := it_nxt (kst t m) (s' := (p_lev lev (tg t i), false, uj)) hp (by omega) (by unfold kst; rw [hs2, ← hcj])
                  refine go_iinc (v := 1) (x := i) (lv' := [(5, vi (i + 1)), (4, vi 0), (7, vi 0), (3, vi (p_lev lev (tg t i))), (6, vi (tg t i)), (0, vr a), (1, vi m), (2, vr r)]) X d_Editing_changeCapitals_128 rfl (by decide) rfl ?_
                  refine go_goto (tgt := 12) X d_Editing_changeCapitals_131 rfl ?_
                  refine go_lv (lv' := [(0, vr a), (1, vi m), (2, vr r), (3, vi (p_lev lev (tg t i))), (4, vi 0), (5, vi (i + 1))]) X [5, 6, 7, 3, 1, 0] rfl ?_
                  exact ih_loop (i + 1) (p_lev lev (tg t i)) false uj Mj (by omega) (by omega) (by omega) huj hfj hn (by omega)
                · skip
                  refine go_iload X d_Editing_changeCapitals_116 rfl ?_
                  refine go_if_le (tgt := 125) X d_Editing_changeCapitals_118 rfl (by omega) (fun hq18 => ?_) (fun hq18 => ?_)
                  · skip
                    refine go_iconst (v := 0) X d_Editing_changeCapitals_125 ?_
                    refine go_istore (lv' := [(4, vi 0), (7, vi 0), (3, vi (p_lev lev (tg t i))), (6, vi (tg t i)), (0, vr a), (1, vi m), (2, vr r), (5, vi i)]) X d_Editing_changeCapitals_126 (by decide) rfl ?_
                    have hs2 : (decide (tg t i = 58 ∧ p_lev lev (tg t i) = 0) || (st && (p_bl (tg t i) && decide (0 < i)))) = false := by
                      simp only [Bool.or_eq_true, Bool.and_eq_true, Bool.or_eq_false_iff, Bool.and_eq_false_iff, decide_eq_true_eq, decide_eq_false_iff_not]
                      exact ⟨(fun z => hq15 z.2), Or.inr (Or.inr (by omega))⟩
                    have hn := it_nxt (kst t m) (s' := (p_lev lev (tg t i), false, uj)) hp (by omega) (by unfold kst; rw [hs2, ← hcj])
                    refine go_iinc (v := 1) (x := i) (lv' := [(5, vi (i + 1)), (4, vi 0), (7, vi 0), (3, vi (p_lev lev (tg t i))), (6, vi (tg t i)), (0, vr a), (1, vi m), (2, vr r)]) X d_Editing_changeCapitals_128 rfl (by decide) rfl ?_
                    refine go_goto (tgt := 12) X d_Editing_changeCapitals_131 rfl ?_
                    refine go_lv (lv' := [(0, vr a), (1, vi m), (2, vr r), (3, vi (p_lev lev (tg t i))), (4, vi 0), (5, vi (i + 1))]) X [5, 6, 7, 3, 1, 0] rfl ?_
                    exact ih_loop (i + 1) (p_lev lev (tg t i)) false uj Mj (by omega) (by omega) (by omega) huj hfj hn (by omega)
                  · skip
                    refine go_iconst (v := 1) X d_Editing_changeCapitals_121 ?_
                    refine go_goto (tgt := 126) X d_Editing_changeCapitals_122 rfl ?_
                    refine go_istore (lv' := [(4, vi 1), (7, vi 0), (3, vi (p_lev lev (tg t i))), (6, vi (tg t i)), (0, vr a), (1, vi m), (2, vr r), (5, vi i)]) X d_Editing_changeCapitals_126 (by decide) rfl ?_
                    have hs2 : (decide (tg t i = 58 ∧ p_lev lev (tg t i) = 0) || (st && (p_bl (tg t i) && decide (0 < i)))) = true := by
                      simp only [Bool.or_eq_true, Bool.and_eq_true, Bool.or_eq_false_iff, Bool.and_eq_false_iff, decide_eq_true_eq, decide_eq_false_iff_not]
                      exact Or.inr ⟨hq16, hq17, by omega⟩
                    have hn := it_nxt (kst t m) (s' := (p_lev lev (tg t i), true, uj)) hp (by omega) (by unfold kst; rw [hs2, ← hcj])
                    refine go_iinc (v := 1) (x := i) (lv' := [(5, vi (i + 1)), (4, vi 1), (7, vi 0), (3, vi (p_lev lev (tg t i))), (6, vi (tg t i)), (0, vr a), (1, vi m), (2, vr r)]) X d_Editing_changeCapitals_128 rfl (by decide) rfl ?_
                    refine go_goto (tgt := 12) X d_Editing_changeCapitals_131 rfl ?_
                    refine go_lv (lv' := [(0, vr a), (1, vi m), (2, vr r), (3, vi (p_lev lev (tg t i))), (4, vi 1), (5, vi (i + 1))]) X [5, 6, 7, 3, 1, 0] rfl ?_
                    exact ih_loop (i + 1) (p_lev lev (tg t i)) true uj Mj (by omega) (by omega) (by omega) huj hfj hn (by omega)
            · skip
              refine go_iconst (v := 1) X d_Editing_changeCapitals_91 ?_
              refine go_goto (tgt := 96) X d_Editing_changeCapitals_92 rfl ?_
              refine go_istore (lv' := [(7, vi 1), (3, vi (p_lev lev (tg t i))), (6, vi (tg t i)), (0, vr a), (1, vi m), (2, vr r), (4, vi (s_b st)), (5, vi i)]) X d_Editing_changeCapitals_96 (by decide) rfl ?_
              refine go_iload X d_Editing_changeCapitals_98 rfl ?_
              refine go_if_ne (tgt := 121) X d_Editing_changeCapitals_100 rfl (by omega) (fun _ => ?_) (fun h9 => absurd h9 (by decide))
              refine go_iconst (v := 1) X d_Editing_changeCapitals_121 ?_
              refine go_goto (tgt := 126) X d_Editing_changeCapitals_122 rfl ?_
              refine go_istore (lv' := [(4, vi 1), (7, vi 1), (3, vi (p_lev lev (tg t i))), (6, vi (tg t i)), (0, vr a), (1, vi m), (2, vr r), (5, vi i)]) X d_Editing_changeCapitals_126 (by decide) rfl ?_
              have hs2 : (decide (tg t i = 58 ∧ p_lev lev (tg t i) = 0) || (st && (p_bl (tg t i) && decide (0 < i)))) = true := by
                simp only [Bool.or_eq_true, Bool.and_eq_true, Bool.or_eq_false_iff, Bool.and_eq_false_iff, decide_eq_true_eq, decide_eq_false_iff_not]
                exact Or.inl ⟨hq11, hq15⟩
              have hn := it_nxt (kst t m) (s' := (p_lev lev (tg t i), true, uj)) hp (by omega) (by unfold kst; rw [hs2, ← hcj])
              refine go_iinc (v := 1) (x := i) (lv' := [(5, vi (i + 1)), (4, vi 1), (7, vi 1), (3, vi (p_lev lev (tg t i))), (6, vi (tg t i)), (0, vr a), (1, vi m), (2, vr r)]) X d_Editing_changeCapitals_128 rfl (by decide) rfl ?_
              refine go_goto (tgt := 12) X d_Editing_changeCapitals_131 rfl ?_
              refine go_lv (lv' := [(0, vr a), (1, vi m), (2, vr r), (3, vi (p_lev lev (tg t i))), (4, vi 1), (5, vi (i + 1))]) X [5, 6, 7, 3, 1, 0] rfl ?_
              exact ih_loop (i + 1) (p_lev lev (tg t i)) true uj Mj (by omega) (by omega) (by omega) huj hfj hn (by omega)
        refine go_iload_n X d_Editing_changeCapitals_36 rfl rfl ?_
        refine go_if_gt (tgt := 49) X d_Editing_changeCapitals_37 rfl (by omega) (fun hq19 => ?_) (fun hq19 => ?_)
        · skip
          refine go_aload_n X d_Editing_changeCapitals_49 rfl rfl ?_
          refine go_iload X d_Editing_changeCapitals_50 rfl ?_
          refine go_cV (st2 := []) (r := []) X k_Editing_26 (k_Text_add l D hu (by omega)) hr.1.1 rfl rfl (by omega) (Nat.le_of_ble_eq_true rfl) d_Editing_changeCapitals_52 (by omega) (by omega) (fun v sh' M20 sz' hp21 => ?_)
          obtain ⟨e22, e23, e24, tv25, fr26⟩ := hp21
          subst e22
          rw [e23, e24]
          show Go g 0 0 sh M20 sz 55 [(3, vi (p_lev lev (tg t i))), (6, vi (tg t i)), (0, vr a), (1, vi m), (2, vr r), (4, vi (s_b st)), (5, vi i)] []
          have tv27 := ha1.kept (fr26 a (by omega)) (fr26 (a + 1) (by omega))
          have fr28 : fr (fun z => r ≤ z ∧ z ≤ r + 1) M M20 := fun z hz => by
            have hz1 : ¬ (r ≤ z ∧ z ≤ r + 1) := hz
            exact (fr26 z (by omega)).trans (hf z hz)
          refine go_goto (tgt := 80) X d_Editing_changeCapitals_55 rfl ?_
          have hcj : ta 60 u (tg t i) = ta 60 u (if 0 < p_lev lev (tg t i) ∨ (st = true ∧ m = 0) then tg t i else if m = 2 then p_upp (tg t i) else p_low (tg t i)) := by
            have e7 : (if 0 < p_lev lev (tg t i) ∨ (st = true ∧ m = 0) then tg t i else if m = 2 then p_upp (tg t i) else p_low (tg t i)) = tg t i := if_pos (Or.inl hq19)
            rw [e7]
          refine go_lv (lv' := [(3, vi (p_lev lev (tg t i))), (6, vi (tg t i)), (0, vr a), (1, vi m), (2, vr r), (4, vi (s_b st)), (5, vi i)]) X [0, 1, 2, 3, 4, 5, 6] rfl ?_
          exact join80 (ta 60 u (tg t i)) M20 tv25 fr28 hcj
        · skip
          refine go_iload X d_Editing_changeCapitals_40 rfl ?_
          refine go_ifb_eq (tgt := 58) X d_Editing_changeCapitals_42 rfl (fun hq29 => ?_) (fun hq29 => ?_)
          · skip
            refine go_aload_n X d_Editing_changeCapitals_58 rfl rfl ?_
            refine go_iload_n X d_Editing_changeCapitals_59 rfl rfl ?_
            refine go_iconst (v := 2) X d_Editing_changeCapitals_60 ?_
            refine go_icmp_ne (tgt := 72) X d_Editing_changeCapitals_61 rfl (by omega) (by omega) (fun hq30 => ?_) (fun hq30 => ?_)
            · skip
              refine go_iload X d_Editing_changeCapitals_72 rfl ?_
              refine go_cSf (st2 := [vi (p_low (tg t i)), vr r]) (r := [vr r]) X k_Editing_34 (c_smallOf l D (by omega)) rfl rfl (by omega) (Nat.le_of_ble_eq_true rfl) d_Editing_changeCapitals_74 (by omega) (by omega) rfl ?_
              refine go_cV (st2 := []) (r := []) X k_Editing_26 (k_Text_add l D hu (by omega)) hr.1.1 rfl rfl (by omega) (Nat.le_of_ble_eq_true rfl) d_Editing_changeCapitals_77 (by omega) (by omega) (fun v sh' M31 sz' hp32 => ?_)
              obtain ⟨e33, e34, e35, tv36, fr37⟩ := hp32
              subst e33
              rw [e34, e35]
              show Go g 0 0 sh M31 sz 80 [(3, vi (p_lev lev (tg t i))), (6, vi (tg t i)), (0, vr a), (1, vi m), (2, vr r), (4, vi (s_b st)), (5, vi i)] []
              have tv38 := ha1.kept (fr37 a (by omega)) (fr37 (a + 1) (by omega))
              have fr39 : fr (fun z => r ≤ z ∧ z ≤ r + 1) M M31 := fun z hz => by
                have hz1 : ¬ (r ≤ z ∧ z ≤ r + 1) := hz
                exact (fr37 z (by omega)).trans (hf z hz)
              have hcj : ta 60 u (p_low (tg t i)) = ta 60 u (if 0 < p_lev lev (tg t i) ∨ (st = true ∧ m = 0) then tg t i else if m = 2 then p_upp (tg t i) else p_low (tg t i)) := by
                have e7 : (if 0 < p_lev lev (tg t i) ∨ (st = true ∧ m = 0) then tg t i else if m = 2 then p_upp (tg t i) else p_low (tg t i)) = p_low (tg t i) := (if_neg (fun z => by rcases z with z | z; omega; exact absurd z.1 (by rw [hq29]; decide))).trans (if_neg hq30)
                rw [e7]
              refine go_lv (lv' := [(3, vi (p_lev lev (tg t i))), (6, vi (tg t i)), (0, vr a), (1, vi m), (2, vr r), (4, vi (s_b st)), (5, vi i)]) X [0, 1, 2, 3, 4, 5, 6] rfl ?_
              exact join80 (ta 60 u (p_low (tg t i))) M31 tv36 fr39 hcj
            · skip
              refine go_iload X d_Editing_changeCapitals_64 rfl ?_
              refine go_cSf (st2 := [vi (p_upp (tg t i)), vr r]) (r := [vr r]) X k_Editing_30 (c_capitalOf l D (by omega)) rfl rfl (by omega) (Nat.le_of_ble_eq_true rfl) d_Editing_changeCapitals_66 (by omega) (by omega) rfl ?_
              refine go_goto (tgt := 77) X d_Editing_changeCapitals_69 rfl ?_
              refine go_cV (st2 := []) (r := []) X k_Editing_26 (k_Text_add l D hu (by omega)) hr.1.1 rfl rfl (by omega) (Nat.le_of_ble_eq_true rfl) d_Editing_changeCapitals_77 (by omega) (by omega) (fun v sh' M40 sz' hp41 => ?_)
              obtain ⟨e42, e43, e44, tv45, fr46⟩ := hp41
              subst e42
              rw [e43, e44]
              show Go g 0 0 sh M40 sz 80 [(3, vi (p_lev lev (tg t i))), (6, vi (tg t i)), (0, vr a), (1, vi m), (2, vr r), (4, vi (s_b st)), (5, vi i)] []
              have tv47 := ha1.kept (fr46 a (by omega)) (fr46 (a + 1) (by omega))
              have fr48 : fr (fun z => r ≤ z ∧ z ≤ r + 1) M M40 := fun z hz => by
                have hz1 : ¬ (r ≤ z ∧ z ≤ r + 1) := hz
                exact (fr46 z (by omega)).trans (hf z hz)
              have hcj : ta 60 u (p_upp (tg t i)) = ta 60 u (if 0 < p_lev lev (tg t i) ∨ (st = true ∧ m = 0) then tg t i else if m = 2 then p_upp (tg t i) else p_low (tg t i)) := by
                have e7 : (if 0 < p_lev lev (tg t i) ∨ (st = true ∧ m = 0) then tg t i else if m = 2 then p_upp (tg t i) else p_low (tg t i)) = p_upp (tg t i) := (if_neg (fun z => by rcases z with z | z; omega; exact absurd z.1 (by rw [hq29]; decide))).trans (if_pos hq30)
                rw [e7]
              refine go_lv (lv' := [(3, vi (p_lev lev (tg t i))), (6, vi (tg t i)), (0, vr a), (1, vi m), (2, vr r), (4, vi (s_b st)), (5, vi i)]) X [0, 1, 2, 3, 4, 5, 6] rfl ?_
              exact join80 (ta 60 u (p_upp (tg t i))) M40 tv45 fr48 hcj
          · skip
            refine go_iload_n X d_Editing_changeCapitals_45 rfl rfl ?_
            refine go_if_ne (tgt := 58) X d_Editing_changeCapitals_46 rfl (by omega) (fun hq49 => ?_) (fun hq49 => ?_)
            · skip
              refine go_aload_n X d_Editing_changeCapitals_58 rfl rfl ?_
              refine go_iload_n X d_Editing_changeCapitals_59 rfl rfl ?_
              refine go_iconst (v := 2) X d_Editing_changeCapitals_60 ?_
              refine go_icmp_ne (tgt := 72) X d_Editing_changeCapitals_61 rfl (by omega) (by omega) (fun hq50 => ?_) (fun hq50 => ?_)
              · skip
                refine go_iload X d_Editing_changeCapitals_72 rfl ?_
                refine go_cSf (st2 := [vi (p_low (tg t i)), vr r]) (r := [vr r]) X k_Editing_34 (c_smallOf l D (by omega)) rfl rfl (by omega) (Nat.le_of_ble_eq_true rfl) d_Editing_changeCapitals_74 (by omega) (by omega) rfl ?_
                refine go_cV (st2 := []) (r := []) X k_Editing_26 (k_Text_add l D hu (by omega)) hr.1.1 rfl rfl (by omega) (Nat.le_of_ble_eq_true rfl) d_Editing_changeCapitals_77 (by omega) (by omega) (fun v sh' M51 sz' hp52 => ?_)
                obtain ⟨e53, e54, e55, tv56, fr57⟩ := hp52
                subst e53
                rw [e54, e55]
                show Go g 0 0 sh M51 sz 80 [(3, vi (p_lev lev (tg t i))), (6, vi (tg t i)), (0, vr a), (1, vi m), (2, vr r), (4, vi (s_b st)), (5, vi i)] []
                have tv58 := ha1.kept (fr57 a (by omega)) (fr57 (a + 1) (by omega))
                have fr59 : fr (fun z => r ≤ z ∧ z ≤ r + 1) M M51 := fun z hz => by
                  have hz1 : ¬ (r ≤ z ∧ z ≤ r + 1) := hz
                  exact (fr57 z (by omega)).trans (hf z hz)
                have hcj : ta 60 u (p_low (tg t i)) = ta 60 u (if 0 < p_lev lev (tg t i) ∨ (st = true ∧ m = 0) then tg t i else if m = 2 then p_upp (tg t i) else p_low (tg t i)) := by
                  have e7 : (if 0 < p_lev lev (tg t i) ∨ (st = true ∧ m = 0) then tg t i else if m = 2 then p_upp (tg t i) else p_low (tg t i)) = p_low (tg t i) := (if_neg (fun z => by rcases z with z | z; omega; exact hq49 z.2)).trans (if_neg hq50)
                  rw [e7]
                refine go_lv (lv' := [(3, vi (p_lev lev (tg t i))), (6, vi (tg t i)), (0, vr a), (1, vi m), (2, vr r), (4, vi (s_b st)), (5, vi i)]) X [0, 1, 2, 3, 4, 5, 6] rfl ?_
                exact join80 (ta 60 u (p_low (tg t i))) M51 tv56 fr59 hcj
              · skip
                refine go_iload X d_Editing_changeCapitals_64 rfl ?_
                refine go_cSf (st2 := [vi (p_upp (tg t i)), vr r]) (r := [vr r]) X k_Editing_30 (c_capitalOf l D (by omega)) rfl rfl (by omega) (Nat.le_of_ble_eq_true rfl) d_Editing_changeCapitals_66 (by omega) (by omega) rfl ?_
                refine go_goto (tgt := 77) X d_Editing_changeCapitals_69 rfl ?_
                refine go_cV (st2 := []) (r := []) X k_Editing_26 (k_Text_add l D hu (by omega)) hr.1.1 rfl rfl (by omega) (Nat.le_of_ble_eq_true rfl) d_Editing_changeCapitals_77 (by omega) (by omega) (fun v sh' M60 sz' hp61 => ?_)
                obtain ⟨e62, e63, e64, tv65, fr66⟩ := hp61
                subst e62
                rw [e63, e64]
                show Go g 0 0 sh M60 sz 80 [(3, vi (p_lev lev (tg t i))), (6, vi (tg t i)), (0, vr a), (1, vi m), (2, vr r), (4, vi (s_b st)), (5, vi i)] []
                have tv67 := ha1.kept (fr66 a (by omega)) (fr66 (a + 1) (by omega))
                have fr68 : fr (fun z => r ≤ z ∧ z ≤ r + 1) M M60 := fun z hz => by
                  have hz1 : ¬ (r ≤ z ∧ z ≤ r + 1) := hz
                  exact (fr66 z (by omega)).trans (hf z hz)
                have hcj : ta 60 u (p_upp (tg t i)) = ta 60 u (if 0 < p_lev lev (tg t i) ∨ (st = true ∧ m = 0) then tg t i else if m = 2 then p_upp (tg t i) else p_low (tg t i)) := by
                  have e7 : (if 0 < p_lev lev (tg t i) ∨ (st = true ∧ m = 0) then tg t i else if m = 2 then p_upp (tg t i) else p_low (tg t i)) = p_upp (tg t i) := (if_neg (fun z => by rcases z with z | z; omega; exact hq49 z.2)).trans (if_pos hq50)
                  rw [e7]
                refine go_lv (lv' := [(3, vi (p_lev lev (tg t i))), (6, vi (tg t i)), (0, vr a), (1, vi m), (2, vr r), (4, vi (s_b st)), (5, vi i)]) X [0, 1, 2, 3, 4, 5, 6] rfl ?_
                exact join80 (ta 60 u (p_upp (tg t i))) M60 tv65 fr68 hcj
            · skip
              refine go_aload_n X d_Editing_changeCapitals_49 rfl rfl ?_
              refine go_iload X d_Editing_changeCapitals_50 rfl ?_
              refine go_cV (st2 := []) (r := []) X k_Editing_26 (k_Text_add l D hu (by omega)) hr.1.1 rfl rfl (by omega) (Nat.le_of_ble_eq_true rfl) d_Editing_changeCapitals_52 (by omega) (by omega) (fun v sh' M69 sz' hp70 => ?_)
              obtain ⟨e71, e72, e73, tv74, fr75⟩ := hp70
              subst e71
              rw [e72, e73]
              show Go g 0 0 sh M69 sz 55 [(3, vi (p_lev lev (tg t i))), (6, vi (tg t i)), (0, vr a), (1, vi m), (2, vr r), (4, vi (s_b st)), (5, vi i)] []
              have tv76 := ha1.kept (fr75 a (by omega)) (fr75 (a + 1) (by omega))
              have fr77 : fr (fun z => r ≤ z ∧ z ≤ r + 1) M M69 := fun z hz => by
                have hz1 : ¬ (r ≤ z ∧ z ≤ r + 1) := hz
                exact (fr75 z (by omega)).trans (hf z hz)
              refine go_goto (tgt := 80) X d_Editing_changeCapitals_55 rfl ?_
              have hcj : ta 60 u (tg t i) = ta 60 u (if 0 < p_lev lev (tg t i) ∨ (st = true ∧ m = 0) then tg t i else if m = 2 then p_upp (tg t i) else p_low (tg t i)) := by
                have e7 : (if 0 < p_lev lev (tg t i) ∨ (st = true ∧ m = 0) then tg t i else if m = 2 then p_upp (tg t i) else p_low (tg t i)) = tg t i := if_pos (Or.inr ⟨hq29, hq49⟩)
                rw [e7]
              refine go_lv (lv' := [(3, vi (p_lev lev (tg t i))), (6, vi (tg t i)), (0, vr a), (1, vi m), (2, vr r), (4, vi (s_b st)), (5, vi i)]) X [0, 1, 2, 3, 4, 5, 6] rfl ?_
              exact join80 (ta 60 u (tg t i)) M69 tv74 fr77 hcj
  refine go_lv (lv' := [(0, vr a), (1, vi m), (2, vr r), (3, vi 0), (4, vi 1), (5, vi 0)]) X [3, 4, 5, 2, 1, 0] rfl ?_
  exact loop _ 0 0 true ([]) M1 (by omega) (by omega) (by omega) tv6 fr9 rfl (Nat.lt_succ_self _)
/-- c characters from the b-th on, or up to the b-th from behind -/
def oof (t : List Int) (b c : Int) : List Int := if b = 0 ∨ c < 1 then [] else
  (fun bg : Int => ([] : List Int) ++ sl t (max (max bg 0) 0) (min (min (min (max (bg + c) 0) (t.length : Int)) (t.length : Int) - max (max bg 0) 0) ((60 : Int) - ([] : List Int).length))) (if 0 < b then b - 1 else (t.length : Int) + b + 1 - c)
set_option maxHeartbeats 4000000 in
set_option maxRecDepth 100000 in
theorem c_cutOut (l : Launch) (D : va_G) {sh : s_S} {M : s_M} {sz a r : Int} {N : Nat} {t u0 : List Int} (ha : tv sh M a N t) (hr : tv sh M r 60 u0) (hne : a + 1 < r) {b c : Int} (hbr : -2147483648 ≤ b ∧ b < 2147483648) (hcr : -2147483648 ≤ c ∧ c < 2147483648) : Sp l D y_Editing_cutOut prog_3_method_6_code 10 none 3 0 0 [vr a, vi b, vi c, vr r] sh M sz (fun v sh' M' sz' => v = none ∧ sh' = sh ∧ sz' = sz ∧ tv sh M' r 60 (oof t b c) ∧ fr (fun z => r ≤ z ∧ z ≤ r + 1) M M') := by
  have hln := ha.len
  have hch := ha.rng
  have ha0 := ha.1.2.2.2.2.2.2.1
  refine Sp.ofGo (own := "CiteForge$Editing") (nm := "cutOut") (by decide) rfl rfl (Nat.le_of_ble_eq_true rfl) (lv := [(0, vr a), (1, vi b), (2, vi c), (3, vr r)]) rfl ?_
  intro g X
  refine go_aload_n X d_Editing_cutOut_0 rfl rfl ?_
  refine go_cV (st2 := []) (r := []) X k_Editing_7 (k_Text_reset l D hr) hr.1.1 rfl rfl (by omega) (Nat.le_of_ble_eq_true rfl) d_Editing_cutOut_1 (by omega) (by omega) (fun v sh' M1 sz' hp2 => ?_)
  obtain ⟨e3, e4, e5, tv6, fr7⟩ := hp2
  subst e3
  rw [e4, e5]
  show Go g 0 0 sh M1 sz 4 [(0, vr a), (1, vi b), (2, vi c), (3, vr r)] []
  have tv8 := ha.kept (fr7 a (by omega)) (fr7 (a + 1) (by omega))
  have fr9 : fr (fun z => r ≤ z ∧ z ≤ r + 1) M M1 := fun z hz => by
    have hz1 : ¬ (r ≤ z ∧ z ≤ r + 1) := hz
    exact (fr7 z (by omega))
  refine go_iload_n X d_Editing_cutOut_4 rfl rfl ?_
  refine go_if_eq (tgt := 13) X d_Editing_cutOut_5 rfl (by omega) (fun hq10 => ?_) (fun hq10 => ?_)
  · skip
    refine go_vret X d_Editing_cutOut_13 rfl (by omega) (by omega) ?_
    rw [show oof t b c = [] from if_pos (by omega)]
    exact ⟨rfl, rfl, rfl, tv6, fr9⟩
  · skip
    refine go_iload_n X d_Editing_cutOut_8 rfl rfl ?_
    refine go_iconst (v := 1) X d_Editing_cutOut_9 ?_
    refine go_icmp_ge (tgt := 14) X d_Editing_cutOut_10 rfl (by omega) (by omega) (fun hq11 => ?_) (fun hq11 => ?_)
    · skip
      refine go_iload_n X d_Editing_cutOut_14 rfl rfl ?_
      refine go_if_le (tgt := 25) X d_Editing_cutOut_15 rfl (by omega) (fun hq12 => ?_) (fun hq12 => ?_)
      · skip
        refine go_aload_n X d_Editing_cutOut_25 rfl rfl ?_
        refine go_cVf (st2 := [vi (t.length : Int)]) (r := []) X k_Editing_12 (k_Text_size l D tv8) ha.1.1 rfl rfl (by omega) (Nat.le_of_ble_eq_true rfl) d_Editing_cutOut_26 (by omega) (by omega) rfl ?_
        refine go_i2l X d_Editing_cutOut_29 (by omega) ?_
        refine go_iload_n X d_Editing_cutOut_30 rfl rfl ?_
        refine go_i2l X d_Editing_cutOut_31 (by omega) ?_
        refine go_ladd X d_Editing_cutOut_32 ?_
        refine go_lconst (x := 1) X d_Editing_cutOut_33 (by decide) ?_
        refine go_ladd X d_Editing_cutOut_34 ?_
        refine go_iload_n X d_Editing_cutOut_35 rfl rfl ?_
        refine go_i2l X d_Editing_cutOut_36 (by omega) ?_
        refine go_lsub X d_Editing_cutOut_37 ?_
        refine go_lstore (lv' := [(4, vl ((((t.length : Int) + b) + 1) - c)), (0, vr a), (1, vi b), (2, vi c), (3, vr r)]) X d_Editing_cutOut_38 (by decide) rfl ?_
        refine go_lload X d_Editing_cutOut_40 rfl ?_
        refine go_iload_n X d_Editing_cutOut_42 rfl rfl ?_
        refine go_i2l X d_Editing_cutOut_43 (by omega) ?_
        refine go_ladd X d_Editing_cutOut_44 ?_
        refine go_lstore (lv' := [(6, vl (((((t.length : Int) + b) + 1) - c) + c)), (4, vl ((((t.length : Int) + b) + 1) - c)), (0, vr a), (1, vi b), (2, vi c), (3, vr r)]) X d_Editing_cutOut_45 (by decide) rfl ?_
        refine go_lload X d_Editing_cutOut_47 rfl ?_
        refine go_lconst (x := 0) X d_Editing_cutOut_49 (by decide) ?_
        refine go_mmaxl X w_mmaxl_Editing_50 w_mmaxl_s w_imath w_mmaxl_c (by omega) (by omega) (by omega) (by omega) (by omega) (Nat.le_of_ble_eq_true rfl) d_Editing_cutOut_50 ?_
        refine go_l2i X d_Editing_cutOut_53 ?_
        refine go_istore (lv' := [(8, vi (max ((((t.length : Int) + b) + 1) - c) 0)), (6, vl (((((t.length : Int) + b) + 1) - c) + c)), (4, vl ((((t.length : Int) + b) + 1) - c)), (0, vr a), (1, vi b), (2, vi c), (3, vr r)]) X d_Editing_cutOut_54 (by decide) rfl ?_
        refine go_lload X d_Editing_cutOut_56 rfl ?_
        refine go_lconst (x := 0) X d_Editing_cutOut_58 (by decide) ?_
        refine go_mmaxl X w_mmaxl_Editing_50 w_mmaxl_s w_imath w_mmaxl_c (by omega) (by omega) (by omega) (by omega) (by omega) (Nat.le_of_ble_eq_true rfl) d_Editing_cutOut_59 ?_
        refine go_aload_n X d_Editing_cutOut_62 rfl rfl ?_
        refine go_cVf (st2 := [vi (t.length : Int), vl (max (((((t.length : Int) + b) + 1) - c) + c) 0)]) (r := [vl (max (((((t.length : Int) + b) + 1) - c) + c) 0)]) X k_Editing_12 (k_Text_size l D tv8) ha.1.1 rfl rfl (by omega) (Nat.le_of_ble_eq_true rfl) d_Editing_cutOut_63 (by omega) (by omega) rfl ?_
        refine go_i2l X d_Editing_cutOut_66 (by omega) ?_
        refine go_mminl X w_mminl_Editing_56 w_mminl_s w_imath w_mminl_c (by omega) (by omega) (by omega) (by omega) (by omega) (Nat.le_of_ble_eq_true rfl) d_Editing_cutOut_67 ?_
        refine go_l2i X d_Editing_cutOut_70 ?_
        refine go_istore (lv' := [(9, vi (min (max (((((t.length : Int) + b) + 1) - c) + c) 0) (t.length : Int))), (8, vi (max ((((t.length : Int) + b) + 1) - c) 0)), (6, vl (((((t.length : Int) + b) + 1) - c) + c)), (4, vl ((((t.length : Int) + b) + 1) - c)), (0, vr a), (1, vi b), (2, vi c), (3, vr r)]) X d_Editing_cutOut_71 (by decide) rfl ?_
        refine go_aload_n X d_Editing_cutOut_73 rfl rfl ?_
        refine go_aload_n X d_Editing_cutOut_74 rfl rfl ?_
        refine go_iload X d_Editing_cutOut_75 rfl ?_
        refine go_iload X d_Editing_cutOut_77 rfl ?_
        refine go_cV (st2 := []) (r := []) X k_Editing_59 (c_Text_addPart l D tv6 tv8 (by omega) (by omega) (by omega)) hr.1.1 rfl rfl (by omega) (Nat.le_of_ble_eq_true rfl) d_Editing_cutOut_79 (by omega) (by omega) (fun v sh' M13 sz' hp14 => ?_)
        obtain ⟨e15, e16, e17, tv18, fr19⟩ := hp14
        subst e15
        rw [e16, e17]
        show Go g 0 0 sh M13 sz 82 [(9, vi (min (max (((((t.length : Int) + b) + 1) - c) + c) 0) (t.length : Int))), (8, vi (max ((((t.length : Int) + b) + 1) - c) 0)), (6, vl (((((t.length : Int) + b) + 1) - c) + c)), (4, vl ((((t.length : Int) + b) + 1) - c)), (0, vr a), (1, vi b), (2, vi c), (3, vr r)] []
        have tv20 := tv8.kept (fr19 a (by omega)) (fr19 (a + 1) (by omega))
        have fr21 : fr (fun z => r ≤ z ∧ z ≤ r + 1) M M13 := fun z hz => by
          have hz1 : ¬ (r ≤ z ∧ z ≤ r + 1) := hz
          exact (fr19 z (by omega)).trans (fr9 z hz)
        refine go_vret X d_Editing_cutOut_82 rfl (by omega) (by omega) ?_
        refine ⟨rfl, rfl, rfl, ?_, fr21⟩
        unfold oof
        rw [if_neg (by omega), if_neg (by omega)]
        exact tv18
      · skip
        refine go_iload_n X d_Editing_cutOut_18 rfl rfl ?_
        refine go_i2l X d_Editing_cutOut_19 (by omega) ?_
        refine go_lconst (x := 1) X d_Editing_cutOut_20 (by decide) ?_
        refine go_lsub X d_Editing_cutOut_21 ?_
        refine go_goto (tgt := 38) X d_Editing_cutOut_22 rfl ?_
        refine go_lstore (lv' := [(4, vl (b - 1)), (0, vr a), (1, vi b), (2, vi c), (3, vr r)]) X d_Editing_cutOut_38 (by decide) rfl ?_
        refine go_lload X d_Editing_cutOut_40 rfl ?_
        refine go_iload_n X d_Editing_cutOut_42 rfl rfl ?_
        refine go_i2l X d_Editing_cutOut_43 (by omega) ?_
        refine go_ladd X d_Editing_cutOut_44 ?_
        refine go_lstore (lv' := [(6, vl ((b - 1) + c)), (4, vl (b - 1)), (0, vr a), (1, vi b), (2, vi c), (3, vr r)]) X d_Editing_cutOut_45 (by decide) rfl ?_
        refine go_lload X d_Editing_cutOut_47 rfl ?_
        refine go_lconst (x := 0) X d_Editing_cutOut_49 (by decide) ?_
        refine go_mmaxl X w_mmaxl_Editing_50 w_mmaxl_s w_imath w_mmaxl_c (by omega) (by omega) (by omega) (by omega) (by omega) (Nat.le_of_ble_eq_true rfl) d_Editing_cutOut_50 ?_
        refine go_l2i X d_Editing_cutOut_53 ?_
        refine go_istore (lv' := [(8, vi (max (b - 1) 0)), (6, vl ((b - 1) + c)), (4, vl (b - 1)), (0, vr a), (1, vi b), (2, vi c), (3, vr r)]) X d_Editing_cutOut_54 (by decide) rfl ?_
        refine go_lload X d_Editing_cutOut_56 rfl ?_
        refine go_lconst (x := 0) X d_Editing_cutOut_58 (by decide) ?_
        refine go_mmaxl X w_mmaxl_Editing_50 w_mmaxl_s w_imath w_mmaxl_c (by omega) (by omega) (by omega) (by omega) (by omega) (Nat.le_of_ble_eq_true rfl) d_Editing_cutOut_59 ?_
        refine go_aload_n X d_Editing_cutOut_62 rfl rfl ?_
        refine go_cVf (st2 := [vi (t.length : Int), vl (max ((b - 1) + c) 0)]) (r := [vl (max ((b - 1) + c) 0)]) X k_Editing_12 (k_Text_size l D tv8) ha.1.1 rfl rfl (by omega) (Nat.le_of_ble_eq_true rfl) d_Editing_cutOut_63 (by omega) (by omega) rfl ?_
        refine go_i2l X d_Editing_cutOut_66 (by omega) ?_
        refine go_mminl X w_mminl_Editing_56 w_mminl_s w_imath w_mminl_c (by omega) (by omega) (by omega) (by omega) (by omega) (Nat.le_of_ble_eq_true rfl) d_Editing_cutOut_67 ?_
        refine go_l2i X d_Editing_cutOut_70 ?_
        refine go_istore (lv' := [(9, vi (min (max ((b - 1) + c) 0) (t.length : Int))), (8, vi (max (b - 1) 0)), (6, vl ((b - 1) + c)), (4, vl (b - 1)), (0, vr a), (1, vi b), (2, vi c), (3, vr r)]) X d_Editing_cutOut_71 (by decide) rfl ?_
        refine go_aload_n X d_Editing_cutOut_73 rfl rfl ?_
        refine go_aload_n X d_Editing_cutOut_74 rfl rfl ?_
        refine go_iload X d_Editing_cutOut_75 rfl ?_
        refine go_iload X d_Editing_cutOut_77 rfl ?_
        refine go_cV (st2 := []) (r := []) X k_Editing_59 (c_Text_addPart l D tv6 tv8 (by omega) (by omega) (by omega)) hr.1.1 rfl rfl (by omega) (Nat.le_of_ble_eq_true rfl) d_Editing_cutOut_79 (by omega) (by omega) (fun v sh' M22 sz' hp23 => ?_)
        obtain ⟨e24, e25, e26, tv27, fr28⟩ := hp23
        subst e24
        rw [e25, e26]
        show Go g 0 0 sh M22 sz 82 [(9, vi (min (max ((b - 1) + c) 0) (t.length : Int))), (8, vi (max (b - 1) 0)), (6, vl ((b - 1) + c)), (4, vl (b - 1)), (0, vr a), (1, vi b), (2, vi c), (3, vr r)] []
        have tv29 := tv8.kept (fr28 a (by omega)) (fr28 (a + 1) (by omega))
        have fr30 : fr (fun z => r ≤ z ∧ z ≤ r + 1) M M22 := fun z hz => by
          have hz1 : ¬ (r ≤ z ∧ z ≤ r + 1) := hz
          exact (fr28 z (by omega)).trans (fr9 z hz)
        refine go_vret X d_Editing_cutOut_82 rfl (by omega) (by omega) ?_
        refine ⟨rfl, rfl, rfl, ?_, fr30⟩
        unfold oof
        rw [if_neg (by omega), if_pos (by omega)]
        exact tv27
    · skip
      refine go_vret X d_Editing_cutOut_13 rfl (by omega) (by omega) ?_
      rw [show oof t b c = [] from if_pos (by omega)]
      exact ⟨rfl, rfl, rfl, tv6, fr9⟩
