/-! Editing: what becomes of a text. -/
def pst (t : List Int) (i : Int) (u : List Int) : List Int := if tg t i = 45 ∨ tg t i = 126 then ta 60 u 32 else if p_let (tg t i) = true ∨ p_dig (tg t i) = true ∨ tg t i = 32 then ta 60 u (tg t i) else u
def pof (t : List Int) : List Int := it (pst t) ((t.length : Int) - 0).toNat 0 []
def nst (t : List Int) (i : Int) (n : Int) : Int := if p_brc (tg t i) = true then n else n + 1
def nof (t : List Int) : Int := it (nst t) ((t.length : Int) - 0).toNat 0 0
theorem nof_r (t : List Int) : ∀ (k : Nat) (i n : Int), n ≤ it (nst t) k i n ∧ it (nst t) k i n ≤ n + k
  | 0, _, n => ⟨Int.le_refl _, by show n ≤ n + 0; omega⟩
  | k + 1, i, n => by
    have h := nof_r t k (i + 1) (nst t i n)
    show n ≤ it (nst t) k (i + 1) (nst t i n) ∧ it (nst t) k (i + 1) (nst t i n) ≤ n + (k + 1 : Nat)
    have h2 : nst t i n = n ∨ nst t i n = n + 1 := by
      unfold nst
      split
      · exact Or.inl rfl
      · exact Or.inr rfl
    omega
theorem ta_len {N : Nat} {u : List Int} {c : Int} : (ta N u c).length ≤ u.length + 1 := by
  unfold ta
  split
  · simp
  · omega
set_option maxHeartbeats 4000000 in
set_option maxRecDepth 100000 in
theorem c_purify (l : Launch) (D : va_G) {sh : s_S} {M : s_M} {sz a r : Int} {N : Nat} {t u0 : List Int} (ha : tv sh M a N t) (hr : tv sh M r 60 u0) (hne : a + 1 < r) : Sp l D y_Editing_purify prog_3_method_3_code 4 none 3 0 0 [vr a, vr r] sh M sz (fun v sh' M' sz' => v = none ∧ sh' = sh ∧ sz' = sz ∧ tv sh M' r 60 (pof t) ∧ fr (fun z => r ≤ z ∧ z ≤ r + 1) M M') := by
  have hln := ha.len
  have hch := ha.rng
  have ha0 := ha.1.2.2.2.2.2.2.1
  refine Sp.ofGo (own := "CiteForge$Editing") (nm := "purify") (by decide) rfl rfl (Nat.le_of_ble_eq_true rfl) (lv := [(0, vr a), (1, vr r)]) rfl ?_
  intro g X
  refine go_aload_n X d_Editing_purify_0 rfl rfl ?_
  refine go_cV (st2 := []) (r := []) X k_Editing_7 (k_Text_reset l D hr) hr.1.1 rfl rfl (by omega) (Nat.le_of_ble_eq_true rfl) d_Editing_purify_1 (by omega) (by omega) (fun v sh' M1 sz' hp2 => ?_)
  obtain ⟨e3, e4, e5, tv6, fr7⟩ := hp2
  subst e3
  rw [e4, e5]
  show Go g 0 0 sh M1 sz 4 [(0, vr a), (1, vr r)] []
  have tv8 := ha.kept (fr7 a (by omega)) (fr7 (a + 1) (by omega))
  have fr9 : fr (fun z => r ≤ z ∧ z ≤ r + 1) M M1 := fun z hz => by
    have hz1 : ¬ (r ≤ z ∧ z ≤ r + 1) := hz
    exact (fr7 z (by omega))
  refine go_iconst (v := 0) X d_Editing_purify_4 ?_
  refine go_istore_n (lv' := [(2, vi 0), (0, vr a), (1, vr r)]) X d_Editing_purify_5 rfl (by decide) rfl ?_
  have loop : ∀ (fuel : Nat) (i : Int) (u : List Int) (Mx : s_M), (0 ≤ i) → (i ≤ t.length) → (tv sh Mx r 60 u) → (fr (fun z => r ≤ z ∧ z ≤ r + 1) M Mx) → (it (pst t) ((t.length : Int) - i).toNat i u = pof t) → ((t.length : Int) - i).toNat < fuel → Go g 0 0 sh Mx sz 6 [(0, vr a), (1, vr r), (2, vi i)] [] := by
    intro fuel
    induction fuel with
    | zero => intro i u Mx hi hi2 hu hf hp hm_loop; exact absurd hm_loop (Nat.not_lt_zero _)
    | succ fuel ih_loop =>
      intro i u Mx hi hi2 hu hf hp hm_loop
      have ha1 := ha.kept (hf a (by omega)) (hf (a + 1) (by omega))
      refine go_iload_n X d_Editing_purify_6 rfl rfl ?_
      refine go_aload_n X d_Editing_purify_7 rfl rfl ?_
      refine go_cVf (st2 := [vi (t.length : Int), vi i]) (r := [vi i]) X k_Editing_12 (k_Text_size l D ha1) ha.1.1 rfl rfl (by omega) (Nat.le_of_ble_eq_true rfl) d_Editing_purify_8 (by omega) (by omega) rfl ?_
      refine go_icmp_ge (tgt := 72) X d_Editing_purify_11 rfl (by omega) (by omega) (fun hq10 => ?_) (fun hq10 => ?_)
      · skip
        refine go_vret X d_Editing_purify_72 rfl (by omega) (by omega) ?_
        rw [it_fin (pst t) hp (by omega)]
        exact ⟨rfl, rfl, rfl, hu, hf⟩
      · skip
        refine go_aload_n X d_Editing_purify_14 rfl rfl ?_
        refine go_iload_n X d_Editing_purify_15 rfl rfl ?_
        refine go_cVf (st2 := [vi (tg t i)]) (r := []) X k_Editing_16 (k_Text_at l D ha1 (by omega)) ha.1.1 rfl rfl (by omega) (Nat.le_of_ble_eq_true rfl) d_Editing_purify_16 (by omega) (by omega) rfl ?_
        have hc0 := hch i
        refine go_istore_n (lv' := [(3, vi (tg t i)), (0, vr a), (1, vr r), (2, vi i)]) X d_Editing_purify_19 rfl (by decide) rfl ?_
        refine go_iload_n X d_Editing_purify_20 rfl rfl ?_
        refine go_bipush (v := 45) X d_Editing_purify_21 (by decide) ?_
        refine go_icmp_eq (tgt := 32) X d_Editing_purify_23 rfl (by omega) (by omega) (fun hq11 => ?_) (fun hq11 => ?_)
        · skip
          refine go_aload_n X d_Editing_purify_32 rfl rfl ?_
          refine go_bipush (v := 32) X d_Editing_purify_33 (by decide) ?_
          refine go_cV (st2 := []) (r := []) X k_Editing_26 (k_Text_add l D hu (by omega)) hr.1.1 rfl rfl (by omega) (Nat.le_of_ble_eq_true rfl) d_Editing_purify_35 (by omega) (by omega) (fun v sh' M12 sz' hp13 => ?_)
          obtain ⟨e14, e15, e16, tv17, fr18⟩ := hp13
          subst e14
          rw [e15, e16]
          show Go g 0 0 sh M12 sz 38 [(3, vi (tg t i)), (0, vr a), (1, vr r), (2, vi i)] []
          have tv19 := ha1.kept (fr18 a (by omega)) (fr18 (a + 1) (by omega))
          have fr20 : fr (fun z => r ≤ z ∧ z ≤ r + 1) M M12 := fun z hz => by
            have hz1 : ¬ (r ≤ z ∧ z ≤ r + 1) := hz
            exact (fr18 z (by omega)).trans (hf z hz)
          refine go_goto (tgt := 66) X d_Editing_purify_38 rfl ?_
          have hn := it_nxt (pst t) (s' := ta 60 u 32) hp (by omega) (by simp [pst, hq11])
          refine go_iinc (v := 1) (x := i) (lv' := [(2, vi (i + 1)), (3, vi (tg t i)), (0, vr a), (1, vr r)]) X d_Editing_purify_66 rfl (by decide) rfl ?_
          refine go_goto (tgt := 6) X d_Editing_purify_69 rfl ?_
          refine go_lv (lv' := [(0, vr a), (1, vr r), (2, vi (i + 1))]) X [2, 3, 0] rfl ?_
          exact ih_loop (i + 1) (ta 60 u 32) M12 (by omega) (by omega) tv17 fr20 hn (by omega)
        · skip
          refine go_iload_n X d_Editing_purify_26 rfl rfl ?_
          refine go_bipush (v := 126) X d_Editing_purify_27 (by decide) ?_
          refine go_icmp_ne (tgt := 41) X d_Editing_purify_29 rfl (by omega) (by omega) (fun hq21 => ?_) (fun hq21 => ?_)
          · skip
            refine go_iload_n X d_Editing_purify_41 rfl rfl ?_
            refine go_cSf (st2 := [vi (s_b (p_let (tg t i)))]) (r := []) X k_Editing_41 (c_isLetter l D (by omega)) rfl rfl (by omega) (Nat.le_of_ble_eq_true rfl) d_Editing_purify_42 (by omega) (by omega) rfl ?_
            refine go_ifb_ne (tgt := 61) X d_Editing_purify_45 rfl (fun hq22 => ?_) (fun hq22 => ?_)
            · skip
              refine go_aload_n X d_Editing_purify_61 rfl rfl ?_
              refine go_iload_n X d_Editing_purify_62 rfl rfl ?_
              refine go_cV (st2 := []) (r := []) X k_Editing_26 (k_Text_add l D hu (by omega)) hr.1.1 rfl rfl (by omega) (Nat.le_of_ble_eq_true rfl) d_Editing_purify_63 (by omega) (by omega) (fun v sh' M23 sz' hp24 => ?_)
              obtain ⟨e25, e26, e27, tv28, fr29⟩ := hp24
              subst e25
              rw [e26, e27]
              show Go g 0 0 sh M23 sz 66 [(3, vi (tg t i)), (0, vr a), (1, vr r), (2, vi i)] []
              have tv30 := ha1.kept (fr29 a (by omega)) (fr29 (a + 1) (by omega))
              have fr31 : fr (fun z => r ≤ z ∧ z ≤ r + 1) M M23 := fun z hz => by
                have hz1 : ¬ (r ≤ z ∧ z ≤ r + 1) := hz
                exact (fr29 z (by omega)).trans (hf z hz)
              have hn := it_nxt (pst t) (s' := ta 60 u (tg t i)) hp (by omega) (by simp [pst, hq11, hq21, hq22])
              refine go_iinc (v := 1) (x := i) (lv' := [(2, vi (i + 1)), (3, vi (tg t i)), (0, vr a), (1, vr r)]) X d_Editing_purify_66 rfl (by decide) rfl ?_
              refine go_goto (tgt := 6) X d_Editing_purify_69 rfl ?_
              refine go_lv (lv' := [(0, vr a), (1, vr r), (2, vi (i + 1))]) X [2, 3, 0] rfl ?_
              exact ih_loop (i + 1) (ta 60 u (tg t i)) M23 (by omega) (by omega) tv28 fr31 hn (by omega)
            · skip
              refine go_iload_n X d_Editing_purify_48 rfl rfl ?_
              refine go_cSf (st2 := [vi (s_b (p_dig (tg t i)))]) (r := []) X k_Editing_44 (c_isDigit l D (by omega)) rfl rfl (by omega) (Nat.le_of_ble_eq_true rfl) d_Editing_purify_49 (by omega) (by omega) rfl ?_
              refine go_ifb_ne (tgt := 61) X d_Editing_purify_52 rfl (fun hq32 => ?_) (fun hq32 => ?_)
              · skip
                refine go_aload_n X d_Editing_purify_61 rfl rfl ?_
                refine go_iload_n X d_Editing_purify_62 rfl rfl ?_
                refine go_cV (st2 := []) (r := []) X k_Editing_26 (k_Text_add l D hu (by omega)) hr.1.1 rfl rfl (by omega) (Nat.le_of_ble_eq_true rfl) d_Editing_purify_63 (by omega) (by omega) (fun v sh' M33 sz' hp34 => ?_)
                obtain ⟨e35, e36, e37, tv38, fr39⟩ := hp34
                subst e35
                rw [e36, e37]
                show Go g 0 0 sh M33 sz 66 [(3, vi (tg t i)), (0, vr a), (1, vr r), (2, vi i)] []
                have tv40 := ha1.kept (fr39 a (by omega)) (fr39 (a + 1) (by omega))
                have fr41 : fr (fun z => r ≤ z ∧ z ≤ r + 1) M M33 := fun z hz => by
                  have hz1 : ¬ (r ≤ z ∧ z ≤ r + 1) := hz
                  exact (fr39 z (by omega)).trans (hf z hz)
                have hn := it_nxt (pst t) (s' := ta 60 u (tg t i)) hp (by omega) (by simp [pst, hq11, hq21, hq22, hq32])
                refine go_iinc (v := 1) (x := i) (lv' := [(2, vi (i + 1)), (3, vi (tg t i)), (0, vr a), (1, vr r)]) X d_Editing_purify_66 rfl (by decide) rfl ?_
                refine go_goto (tgt := 6) X d_Editing_purify_69 rfl ?_
                refine go_lv (lv' := [(0, vr a), (1, vr r), (2, vi (i + 1))]) X [2, 3, 0] rfl ?_
                exact ih_loop (i + 1) (ta 60 u (tg t i)) M33 (by omega) (by omega) tv38 fr41 hn (by omega)
              · skip
                refine go_iload_n X d_Editing_purify_55 rfl rfl ?_
                refine go_bipush (v := 32) X d_Editing_purify_56 (by decide) ?_
                refine go_icmp_ne (tgt := 66) X d_Editing_purify_58 rfl (by omega) (by omega) (fun hq42 => ?_) (fun hq42 => ?_)
                · skip
                  have hn := it_nxt (pst t) (s' := u) hp (by omega) (by simp [pst, hq11, hq21, hq22, hq32, hq42])
                  refine go_iinc (v := 1) (x := i) (lv' := [(2, vi (i + 1)), (3, vi (tg t i)), (0, vr a), (1, vr r)]) X d_Editing_purify_66 rfl (by decide) rfl ?_
                  refine go_goto (tgt := 6) X d_Editing_purify_69 rfl ?_
                  refine go_lv (lv' := [(0, vr a), (1, vr r), (2, vi (i + 1))]) X [2, 3, 0] rfl ?_
                  exact ih_loop (i + 1) u Mx (by omega) (by omega) hu hf hn (by omega)
                · skip
                  refine go_aload_n X d_Editing_purify_61 rfl rfl ?_
                  refine go_iload_n X d_Editing_purify_62 rfl rfl ?_
                  refine go_cV (st2 := []) (r := []) X k_Editing_26 (k_Text_add l D hu (by omega)) hr.1.1 rfl rfl (by omega) (Nat.le_of_ble_eq_true rfl) d_Editing_purify_63 (by omega) (by omega) (fun v sh' M43 sz' hp44 => ?_)
                  obtain ⟨e45, e46, e47, tv48, fr49⟩ := hp44
                  subst e45
                  rw [e46, e47]
                  show Go g 0 0 sh M43 sz 66 [(3, vi (tg t i)), (0, vr a), (1, vr r), (2, vi i)] []
                  have tv50 := ha1.kept (fr49 a (by omega)) (fr49 (a + 1) (by omega))
                  have fr51 : fr (fun z => r ≤ z ∧ z ≤ r + 1) M M43 := fun z hz => by
                    have hz1 : ¬ (r ≤ z ∧ z ≤ r + 1) := hz
                    exact (fr49 z (by omega)).trans (hf z hz)
                  have hn := it_nxt (pst t) (s' := ta 60 u (tg t i)) hp (by omega) (by simp [pst, hq11, hq21, hq22, hq32, hq42])
                  refine go_iinc (v := 1) (x := i) (lv' := [(2, vi (i + 1)), (3, vi (tg t i)), (0, vr a), (1, vr r)]) X d_Editing_purify_66 rfl (by decide) rfl ?_
                  refine go_goto (tgt := 6) X d_Editing_purify_69 rfl ?_
                  refine go_lv (lv' := [(0, vr a), (1, vr r), (2, vi (i + 1))]) X [2, 3, 0] rfl ?_
                  exact ih_loop (i + 1) (ta 60 u (tg t i)) M43 (by omega) (by omega) tv48 fr51 hn (by omega)
          · skip
            refine go_aload_n X d_Editing_purify_32 rfl rfl ?_
            refine go_bipush (v := 32) X d_Editing_purify_33 (by decide) ?_
            refine go_cV (st2 := []) (r := []) X k_Editing_26 (k_Text_add l D hu (by omega)) hr.1.1 rfl rfl (by omega) (Nat.le_of_ble_eq_true rfl) d_Editing_purify_35 (by omega) (by omega) (fun v sh' M52 sz' hp53 => ?_)
            obtain ⟨e54, e55, e56, tv57, fr58⟩ := hp53
            subst e54
            rw [e55, e56]
            show Go g 0 0 sh M52 sz 38 [(3, vi (tg t i)), (0, vr a), (1, vr r), (2, vi i)] []
            have tv59 := ha1.kept (fr58 a (by omega)) (fr58 (a + 1) (by omega))
            have fr60 : fr (fun z => r ≤ z ∧ z ≤ r + 1) M M52 := fun z hz => by
              have hz1 : ¬ (r ≤ z ∧ z ≤ r + 1) := hz
              exact (fr58 z (by omega)).trans (hf z hz)
            refine go_goto (tgt := 66) X d_Editing_purify_38 rfl ?_
            have hn := it_nxt (pst t) (s' := ta 60 u 32) hp (by omega) (by simp [pst, hq11, hq21])
            refine go_iinc (v := 1) (x := i) (lv' := [(2, vi (i + 1)), (3, vi (tg t i)), (0, vr a), (1, vr r)]) X d_Editing_purify_66 rfl (by decide) rfl ?_
            refine go_goto (tgt := 6) X d_Editing_purify_69 rfl ?_
            refine go_lv (lv' := [(0, vr a), (1, vr r), (2, vi (i + 1))]) X [2, 3, 0] rfl ?_
            exact ih_loop (i + 1) (ta 60 u 32) M52 (by omega) (by omega) tv57 fr60 hn (by omega)
  refine go_lv (lv' := [(0, vr a), (1, vr r), (2, vi 0)]) X [1, 2, 0] rfl ?_
  exact loop _ 0 ([]) M1 (by omega) (by omega) tv6 fr9 rfl (Nat.lt_succ_self _)
set_option maxHeartbeats 4000000 in
set_option maxRecDepth 100000 in
theorem c_sizeWithoutBraces (l : Launch) (D : va_G) {sh : s_S} {M : s_M} {sz a : Int} {N : Nat} {t : List Int} (ha : tv sh M a N t) : Sp l D y_Editing_sizeWithoutBraces prog_3_method_4_code 3 (some .int) 3 0 0 [vr a] sh M sz (pF (some (vi (nof t))) sh M sz) := by
  have hln := ha.len
  have hch := ha.rng
  have ha0 := ha.1.2.2.2.2.2.2.1
  refine Sp.ofGo (own := "CiteForge$Editing") (nm := "sizeWithoutBraces") (by decide) rfl rfl (Nat.le_of_ble_eq_true rfl) (lv := [(0, vr a)]) rfl ?_
  intro g X
  refine go_iconst (v := 0) X d_Editing_sizeWithoutBraces_0 ?_
  refine go_istore_n (lv' := [(1, vi 0), (0, vr a)]) X d_Editing_sizeWithoutBraces_1 rfl (by decide) rfl ?_
  refine go_iconst (v := 0) X d_Editing_sizeWithoutBraces_2 ?_
  refine go_istore_n (lv' := [(2, vi 0), (1, vi 0), (0, vr a)]) X d_Editing_sizeWithoutBraces_3 rfl (by decide) rfl ?_
  have loop : ∀ (fuel : Nat) (i : Int) (n : Int), (0 ≤ i) → (i ≤ t.length) → (0 ≤ n ∧ n ≤ i) → (it (nst t) ((t.length : Int) - i).toNat i n = nof t) → ((t.length : Int) - i).toNat < fuel → Go g 0 0 sh M sz 4 [(0, vr a), (1, vi n), (2, vi i)] [] := by
    intro fuel
    induction fuel with
    | zero => intro i n hi hi2 hb hp hm_loop; exact absurd hm_loop (Nat.not_lt_zero _)
    | succ fuel ih_loop =>
      intro i n hi hi2 hb hp hm_loop
      refine go_iload_n X d_Editing_sizeWithoutBraces_4 rfl rfl ?_
      refine go_aload_n X d_Editing_sizeWithoutBraces_5 rfl rfl ?_
      refine go_cVf (st2 := [vi (t.length : Int), vi i]) (r := [vi i]) X k_Editing_12 (k_Text_size l D ha) ha.1.1 rfl rfl (by omega) (Nat.le_of_ble_eq_true rfl) d_Editing_sizeWithoutBraces_6 (by omega) (by omega) rfl ?_
      refine go_icmp_ge (tgt := 32) X d_Editing_sizeWithoutBraces_9 rfl (by omega) (by omega) (fun hq1 => ?_) (fun hq1 => ?_)
      · skip
        refine go_iload_n X d_Editing_sizeWithoutBraces_32 rfl rfl ?_
        refine go_iret X d_Editing_sizeWithoutBraces_33 rfl ?_ (by omega) (by omega) ?_
        · rfl
        · rw [it_fin (nst t) hp (by omega)]; exact ⟨rfl, rfl, rfl, rfl⟩
      · skip
        refine go_aload_n X d_Editing_sizeWithoutBraces_12 rfl rfl ?_
        refine go_iload_n X d_Editing_sizeWithoutBraces_13 rfl rfl ?_
        refine go_cVf (st2 := [vi (tg t i)]) (r := []) X k_Editing_16 (k_Text_at l D ha (by omega)) ha.1.1 rfl rfl (by omega) (Nat.le_of_ble_eq_true rfl) d_Editing_sizeWithoutBraces_14 (by omega) (by omega) rfl ?_
        have hc0 := hch i
        refine go_cSf (st2 := [vi (s_b (p_brc (tg t i)))]) (r := []) X k_Editing_47 (c_isBrace l D (by omega)) rfl rfl (by omega) (Nat.le_of_ble_eq_true rfl) d_Editing_sizeWithoutBraces_17 (by omega) (by omega) rfl ?_
        refine go_ifb_ne (tgt := 26) X d_Editing_sizeWithoutBraces_20 rfl (fun hq2 => ?_) (fun hq2 => ?_)
        · skip
          have hn := it_nxt (nst t) (s' := n) hp (by omega) (by simp [nst, hq2])
          refine go_iinc (v := 1) (x := i) (lv' := [(2, vi (i + 1)), (0, vr a), (1, vi n)]) X d_Editing_sizeWithoutBraces_26 rfl (by decide) rfl ?_
          refine go_goto (tgt := 4) X d_Editing_sizeWithoutBraces_29 rfl ?_
          refine go_lv (lv' := [(0, vr a), (1, vi n), (2, vi (i + 1))]) X [1, 2, 0] rfl ?_
          exact ih_loop (i + 1) n (by omega) (by omega) (by omega) hn (by omega)
        · skip
          refine go_iinc (v := 1) (x := n) (lv' := [(1, vi (n + 1)), (0, vr a), (2, vi i)]) X d_Editing_sizeWithoutBraces_23 rfl (by decide) rfl ?_
          have hn := it_nxt (nst t) (s' := n + 1) hp (by omega) (by simp [nst, hq2])
          refine go_iinc (v := 1) (x := i) (lv' := [(2, vi (i + 1)), (1, vi (n + 1)), (0, vr a)]) X d_Editing_sizeWithoutBraces_26 rfl (by decide) rfl ?_
          refine go_goto (tgt := 4) X d_Editing_sizeWithoutBraces_29 rfl ?_
          refine go_lv (lv' := [(0, vr a), (1, vi (n + 1)), (2, vi (i + 1))]) X [2, 1, 0] rfl ?_
          exact ih_loop (i + 1) (n + 1) (by omega) (by omega) (by omega) hn (by omega)
  refine go_lv (lv' := [(0, vr a), (1, vi 0), (2, vi 0)]) X [2, 1, 0] rfl ?_
  exact loop _ 0 0 (by omega) (by omega) (by omega) rfl (Nat.lt_succ_self _)
/-- the first b characters, braces not counted, and the braces that are open -/
def cst (t : List Int) (b : Int) (i : Int) (s : Int × Int × List Int) : Int × Int × List Int := if s.2.1 < b then (p_lev s.1 (tg t i), (if p_brc (tg t i) = true then s.2.1 else s.2.1 + 1), ta 60 s.2.2 (tg t i)) else s
def cbst (_ : Int) (u : List Int) : List Int := ta 60 u 125
def cof (t : List Int) (b : Int) : List Int := it cbst ((it (cst t b) ((t.length : Int) - 0).toNat 0 (0, 0, [])).1 - 0).toNat 0 (it (cst t b) ((t.length : Int) - 0).toNat 0 (0, 0, [])).2.2
theorem p_lev_r {v c : Int} (h : 0 ≤ v) : 0 ≤ p_lev v c ∧ p_lev v c ≤ v + 1 := by
  unfold p_lev
  split
  · omega
  · split
    · omega
    · omega
set_option maxHeartbeats 4000000 in
set_option maxRecDepth 100000 in
theorem c_cutBehind (l : Launch) (D : va_G) {sh : s_S} {M : s_M} {sz a r : Int} {N : Nat} {t u0 : List Int} (ha : tv sh M a N t) (hr : tv sh M r 60 u0) (hne : a + 1 < r) {b : Int} (hbr : -2147483648 ≤ b ∧ b < 2147483648) : Sp l D y_Editing_cutBehind prog_3_method_5_code 7 none 3 0 0 [vr a, vi b, vr r] sh M sz (fun v sh' M' sz' => v = none ∧ sh' = sh ∧ sz' = sz ∧ tv sh M' r 60 (cof t b) ∧ fr (fun z => r ≤ z ∧ z ≤ r + 1) M M') := by
  have hln := ha.len
  have hch := ha.rng
  have ha0 := ha.1.2.2.2.2.2.2.1
  refine Sp.ofGo (own := "CiteForge$Editing") (nm := "cutBehind") (by decide) rfl rfl (Nat.le_of_ble_eq_true rfl) (lv := [(0, vr a), (1, vi b), (2, vr r)]) rfl ?_
  intro g X
  refine go_aload_n X d_Editing_cutBehind_0 rfl rfl ?_
  refine go_cV (st2 := []) (r := []) X k_Editing_7 (k_Text_reset l D hr) hr.1.1 rfl rfl (by omega) (Nat.le_of_ble_eq_true rfl) d_Editing_cutBehind_1 (by omega) (by omega) (fun v sh' M1 sz' hp2 => ?_)
  obtain ⟨e3, e4, e5, tv6, fr7⟩ := hp2
  subst e3
  rw [e4, e5]
  show Go g 0 0 sh M1 sz 4 [(0, vr a), (1, vi b), (2, vr r)] []
  have tv8 := ha.kept (fr7 a (by omega)) (fr7 (a + 1) (by omega))
  have fr9 : fr (fun z => r ≤ z ∧ z ≤ r + 1) M M1 := fun z hz => by
    have hz1 : ¬ (r ≤ z ∧ z ≤ r + 1) := hz
    exact (fr7 z (by omega))
  refine go_iconst (v := 0) X d_Editing_cutBehind_4 ?_
  refine go_istore_n (lv' := [(3, vi 0), (0, vr a), (1, vi b), (2, vr r)]) X d_Editing_cutBehind_5 rfl (by decide) rfl ?_
  refine go_iconst (v := 0) X d_Editing_cutBehind_6 ?_
  refine go_istore (lv' := [(4, vi 0), (3, vi 0), (0, vr a), (1, vi b), (2, vr r)]) X d_Editing_cutBehind_7 (by decide) rfl ?_
  refine go_iconst (v := 0) X d_Editing_cutBehind_9 ?_
  refine go_istore (lv' := [(5, vi 0), (4, vi 0), (3, vi 0), (0, vr a), (1, vi b), (2, vr r)]) X d_Editing_cutBehind_10 (by decide) rfl ?_
  have loop : ∀ (fuel : Nat) (i : Int) (lev : Int) (n : Int) (u : List Int) (Mx : s_M), (0 ≤ i) → (i ≤ t.length) → (0 ≤ lev ∧ lev ≤ i) → (0 ≤ n ∧ n ≤ i) → (tv sh Mx r 60 u) → (fr (fun z => r ≤ z ∧ z ≤ r + 1) M Mx) → (it (cst t b) ((t.length : Int) - i).toNat i (lev, n, u) = it (cst t b) ((t.length : Int) - 0).toNat 0 (0, 0, [])) → ((t.length : Int) - i).toNat < fuel → Go g 0 0 sh Mx sz 12 [(0, vr a), (1, vi b), (2, vr r), (3, vi lev), (4, vi n), (5, vi i)] [] := by
    intro fuel
    induction fuel with
    | zero => intro i lev n u Mx hi hi2 hl hb hu hf hp hm_loop; exact absurd hm_loop (Nat.not_lt_zero _)
    | succ fuel ih_loop =>
      intro i lev n u Mx hi hi2 hl hb hu hf hp hm_loop
      have ha1 := ha.kept (hf a (by omega)) (hf (a + 1) (by omega))
      refine go_iload X d_Editing_cutBehind_12 rfl ?_
      refine go_aload_n X d_Editing_cutBehind_14 rfl rfl ?_
      refine go_cVf (st2 := [vi (t.length : Int), vi i]) (r := [vi i]) X k_Editing_12 (k_Text_size l D ha1) ha.1.1 rfl rfl (by omega) (Nat.le_of_ble_eq_true rfl) d_Editing_cutBehind_15 (by omega) (by omega) rfl ?_
      refine go_icmp_ge (tgt := 65) X d_Editing_cutBehind_18 rfl (by omega) (by omega) (fun hq10 => ?_) (fun hq10 => ?_)
      · skip
        refine go_iconst (v := 0) X d_Editing_cutBehind_65 ?_
        refine go_istore (lv' := [(5, vi 0), (0, vr a), (1, vi b), (2, vr r), (3, vi lev), (4, vi n)]) X d_Editing_cutBehind_66 (by decide) rfl ?_
        have hE := it_fin (cst t b) hp (by omega)
        have loopB : ∀ (fuel : Nat) (j : Int) (u2 : List Int) (My : s_M), (0 ≤ j) → (j ≤ lev) → (tv sh My r 60 u2) → (fr (fun z => r ≤ z ∧ z ≤ r + 1) M My) → (it cbst (lev - j).toNat j u2 = it cbst (lev - 0).toNat 0 u) → (lev - j).toNat < fuel → Go g 0 0 sh My sz 68 [(2, vr r), (3, vi lev), (5, vi j)] [] := by
          intro fuel
          induction fuel with
          | zero => intro j u2 My hj hj2 hu2 hf2 hp2 hm_loopB; exact absurd hm_loopB (Nat.not_lt_zero _)
          | succ fuel ih_loopB =>
            intro j u2 My hj hj2 hu2 hf2 hp2 hm_loopB
            refine go_iload X d_Editing_cutBehind_68 rfl ?_
            refine go_iload_n X d_Editing_cutBehind_70 rfl rfl ?_
            refine go_icmp_ge (tgt := 86) X d_Editing_cutBehind_71 rfl (by omega) (by omega) (fun hq11 => ?_) (fun hq11 => ?_)
            · skip
              refine go_vret X d_Editing_cutBehind_86 rfl (by omega) (by omega) ?_
              have e5 := it_fin cbst hp2 (by omega)
              have e6 : cof t b = u2 := by unfold cof; rw [hE]; exact e5
              rw [e6]
              exact ⟨rfl, rfl, rfl, hu2, hf2⟩
            · skip
              refine go_aload_n X d_Editing_cutBehind_74 rfl rfl ?_
              refine go_bipush (v := 125) X d_Editing_cutBehind_75 (by decide) ?_
              refine go_cV (st2 := []) (r := []) X k_Editing_26 (k_Text_add l D hu2 (by omega)) hr.1.1 rfl rfl (by omega) (Nat.le_of_ble_eq_true rfl) d_Editing_cutBehind_77 (by omega) (by omega) (fun v sh' M12 sz' hp13 => ?_)
              obtain ⟨e14, e15, e16, tv17, fr18⟩ := hp13
              subst e14
              rw [e15, e16]
              show Go g 0 0 sh M12 sz 80 [(2, vr r), (3, vi lev), (5, vi j)] []
              have fr19 : fr (fun z => r ≤ z ∧ z ≤ r + 1) M M12 := fun z hz => by
                have hz1 : ¬ (r ≤ z ∧ z ≤ r + 1) := hz
                exact (fr18 z (by omega)).trans (hf2 z hz)
              have hn := it_nxt cbst (s' := ta 60 u2 125) hp2 (by omega) rfl
              refine go_iinc (v := 1) (x := j) (lv' := [(5, vi (j + 1)), (2, vr r), (3, vi lev)]) X d_Editing_cutBehind_80 rfl (by decide) rfl ?_
              refine go_goto (tgt := 68) X d_Editing_cutBehind_83 rfl ?_
              refine go_lv (lv' := [(2, vr r), (3, vi lev), (5, vi (j + 1))]) X [1, 2, 0] rfl ?_
              exact ih_loopB (j + 1) (ta 60 u2 125) M12 (by omega) (by omega) tv17 fr19 hn (by omega)
        refine go_lv (lv' := [(2, vr r), (3, vi lev), (5, vi 0)]) X [3, 4, 0] rfl ?_
        exact loopB _ 0 u Mx (by omega) (by omega) hu hf rfl (Nat.lt_succ_self _)
      · skip
        refine go_iload X d_Editing_cutBehind_21 rfl ?_
        refine go_iload_n X d_Editing_cutBehind_23 rfl rfl ?_
        refine go_icmp_ge (tgt := 65) X d_Editing_cutBehind_24 rfl (by omega) (by omega) (fun hq20 => ?_) (fun hq20 => ?_)
        · skip
          refine go_iconst (v := 0) X d_Editing_cutBehind_65 ?_
          refine go_istore (lv' := [(5, vi 0), (0, vr a), (1, vi b), (2, vr r), (3, vi lev), (4, vi n)]) X d_Editing_cutBehind_66 (by decide) rfl ?_
          have hE := it_stay (cst t b) hp (fun j => if_neg (show ¬ n < b by omega))
          have loopB : ∀ (fuel : Nat) (j : Int) (u2 : List Int) (My : s_M), (0 ≤ j) → (j ≤ lev) → (tv sh My r 60 u2) → (fr (fun z => r ≤ z ∧ z ≤ r + 1) M My) → (it cbst (lev - j).toNat j u2 = it cbst (lev - 0).toNat 0 u) → (lev - j).toNat < fuel → Go g 0 0 sh My sz 68 [(2, vr r), (3, vi lev), (5, vi j)] [] := by
            intro fuel
            induction fuel with
            | zero => intro j u2 My hj hj2 hu2 hf2 hp2 hm_loopB; exact absurd hm_loopB (Nat.not_lt_zero _)
            | succ fuel ih_loopB =>
              intro j u2 My hj hj2 hu2 hf2 hp2 hm_loopB
              refine go_iload X d_Editing_cutBehind_68 rfl ?_
              refine go_iload_n X d_Editing_cutBehind_70 rfl rfl ?_
              refine go_icmp_ge (tgt := 86) X d_Editing_cutBehind_71 rfl (by omega) (by omega) (fun hq21 => ?_) (fun hq21 => ?_)
              · skip
                refine go_vret X d_Editing_cutBehind_86 rfl (by omega) (by omega) ?_
                have e5 := it_fin cbst hp2 (by omega)
                have e6 : cof t b = u2 := by unfold cof; rw [hE]; exact e5
                rw [e6]
                exact ⟨rfl, rfl, rfl, hu2, hf2⟩
              · skip
                refine go_aload_n X d_Editing_cutBehind_74 rfl rfl ?_
                refine go_bipush (v := 125) X d_Editing_cutBehind_75 (by decide) ?_
                refine go_cV (st2 := []) (r := []) X k_Editing_26 (k_Text_add l D hu2 (by omega)) hr.1.1 rfl rfl (by omega) (Nat.le_of_ble_eq_true rfl) d_Editing_cutBehind_77 (by omega) (by omega) (fun v sh' M22 sz' hp23 => ?_)
                obtain ⟨e24, e25, e26, tv27, fr28⟩ := hp23
                subst e24
                rw [e25, e26]
                show Go g 0 0 sh M22 sz 80 [(2, vr r), (3, vi lev), (5, vi j)] []
                have fr29 : fr (fun z => r ≤ z ∧ z ≤ r + 1) M M22 := fun z hz => by
                  have hz1 : ¬ (r ≤ z ∧ z ≤ r + 1) := hz
                  exact (fr28 z (by omega)).trans (hf2 z hz)
                have hn := it_nxt cbst (s' := ta 60 u2 125) hp2 (by omega) rfl
                refine go_iinc (v := 1) (x := j) (lv' := [(5, vi (j + 1)), (2, vr r), (3, vi lev)]) X d_Editing_cutBehind_80 rfl (by decide) rfl ?_
                refine go_goto (tgt := 68) X d_Editing_cutBehind_83 rfl ?_
                refine go_lv (lv' := [(2, vr r), (3, vi lev), (5, vi (j + 1))]) X [1, 2, 0] rfl ?_
                exact ih_loopB (j + 1) (ta 60 u2 125) M22 (by omega) (by omega) tv27 fr29 hn (by omega)
          refine go_lv (lv' := [(2, vr r), (3, vi lev), (5, vi 0)]) X [3, 4, 0] rfl ?_
          exact loopB _ 0 u Mx (by omega) (by omega) hu hf rfl (Nat.lt_succ_self _)
        · skip
          refine go_aload_n X d_Editing_cutBehind_27 rfl rfl ?_
          refine go_iload X d_Editing_cutBehind_28 rfl ?_
          refine go_cVf (st2 := [vi (tg t i)]) (r := []) X k_Editing_16 (k_Text_at l D ha1 (by omega)) ha.1.1 rfl rfl (by omega) (Nat.le_of_ble_eq_true rfl) d_Editing_cutBehind_30 (by omega) (by omega) rfl ?_
          have hc0 := hch i
          refine go_istore (lv' := [(6, vi (tg t i)), (0, vr a), (1, vi b), (2, vr r), (3, vi lev), (4, vi n), (5, vi i)]) X d_Editing_cutBehind_33 (by decide) rfl ?_
          refine go_aload_n X d_Editing_cutBehind_35 rfl rfl ?_
          refine go_iload X d_Editing_cutBehind_36 rfl ?_
          refine go_cV (st2 := []) (r := []) X k_Editing_26 (k_Text_add l D hu (by omega)) hr.1.1 rfl rfl (by omega) (Nat.le_of_ble_eq_true rfl) d_Editing_cutBehind_38 (by omega) (by omega) (fun v sh' M30 sz' hp31 => ?_)
          obtain ⟨e32, e33, e34, tv35, fr36⟩ := hp31
          subst e32
          rw [e33, e34]
          show Go g 0 0 sh M30 sz 41 [(6, vi (tg t i)), (0, vr a), (1, vi b), (2, vr r), (3, vi lev), (4, vi n), (5, vi i)] []
          have tv37 := ha1.kept (fr36 a (by omega)) (fr36 (a + 1) (by omega))
          have fr38 : fr (fun z => r ≤ z ∧ z ≤ r + 1) M M30 := fun z hz => by
            have hz1 : ¬ (r ≤ z ∧ z ≤ r + 1) := hz
            exact (fr36 z (by omega)).trans (hf z hz)
          refine go_iload_n X d_Editing_cutBehind_41 rfl rfl ?_
          refine go_iload X d_Editing_cutBehind_42 rfl ?_
          refine go_cSf (st2 := [vi (p_lev lev (tg t i))]) (r := []) X k_Editing_20 (c_levelBehind l D (by omega) (by omega)) rfl rfl (by omega) (Nat.le_of_ble_eq_true rfl) d_Editing_cutBehind_44 (by omega) (by omega) rfl ?_
          have hl2 := p_lev_r (c := tg t i) hl.1
          refine go_istore_n (lv' := [(3, vi (p_lev lev (tg t i))), (6, vi (tg t i)), (0, vr a), (1, vi b), (2, vr r), (4, vi n), (5, vi i)]) X d_Editing_cutBehind_47 rfl (by decide) rfl ?_
          refine go_iload X d_Editing_cutBehind_48 rfl ?_
          refine go_cSf (st2 := [vi (s_b (p_brc (tg t i)))]) (r := []) X k_Editing_47 (c_isBrace l D (by omega)) rfl rfl (by omega) (Nat.le_of_ble_eq_true rfl) d_Editing_cutBehind_50 (by omega) (by omega) rfl ?_
          refine go_ifb_ne (tgt := 59) X d_Editing_cutBehind_53 rfl (fun hq39 => ?_) (fun hq39 => ?_)
          · skip
            have hn := it_nxt (cst t b) (s' := (p_lev lev (tg t i), n, ta 60 u (tg t i))) hp (by omega) (by simp [cst, hq20, hq39])
            refine go_iinc (v := 1) (x := i) (lv' := [(5, vi (i + 1)), (3, vi (p_lev lev (tg t i))), (6, vi (tg t i)), (0, vr a), (1, vi b), (2, vr r), (4, vi n)]) X d_Editing_cutBehind_59 rfl (by decide) rfl ?_
            refine go_goto (tgt := 12) X d_Editing_cutBehind_62 rfl ?_
            refine go_lv (lv' := [(0, vr a), (1, vi b), (2, vr r), (3, vi (p_lev lev (tg t i))), (4, vi n), (5, vi (i + 1))]) X [3, 4, 5, 1, 6, 0] rfl ?_
            exact ih_loop (i + 1) (p_lev lev (tg t i)) n (ta 60 u (tg t i)) M30 (by omega) (by omega) (by omega) (by omega) tv35 fr38 hn (by omega)
          · skip
            refine go_iinc (v := 1) (x := n) (lv' := [(4, vi (n + 1)), (3, vi (p_lev lev (tg t i))), (6, vi (tg t i)), (0, vr a), (1, vi b), (2, vr r), (5, vi i)]) X d_Editing_cutBehind_56 rfl (by decide) rfl ?_
            have hn := it_nxt (cst t b) (s' := (p_lev lev (tg t i), n + 1, ta 60 u (tg t i))) hp (by omega) (by simp [cst, hq20, hq39])
            refine go_iinc (v := 1) (x := i) (lv' := [(5, vi (i + 1)), (4, vi (n + 1)), (3, vi (p_lev lev (tg t i))), (6, vi (tg t i)), (0, vr a), (1, vi b), (2, vr r)]) X d_Editing_cutBehind_59 rfl (by decide) rfl ?_
            refine go_goto (tgt := 12) X d_Editing_cutBehind_62 rfl ?_
            refine go_lv (lv' := [(0, vr a), (1, vi b), (2, vr r), (3, vi (p_lev lev (tg t i))), (4, vi (n + 1)), (5, vi (i + 1))]) X [4, 5, 6, 2, 1, 0] rfl ?_
            exact ih_loop (i + 1) (p_lev lev (tg t i)) (n + 1) (ta 60 u (tg t i)) M30 (by omega) (by omega) (by omega) (by omega) tv35 fr38 hn (by omega)
  refine go_lv (lv' := [(0, vr a), (1, vi b), (2, vr r), (3, vi 0), (4, vi 0), (5, vi 0)]) X [3, 4, 5, 2, 1, 0] rfl ?_
  exact loop _ 0 0 0 ([]) M1 (by omega) (by omega) (by omega) (by omega) tv6 fr9 rfl (Nat.lt_succ_self _)
