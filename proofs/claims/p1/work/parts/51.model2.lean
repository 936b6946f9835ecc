set_option maxHeartbeats 4000000 in
set_option maxRecDepth 100000 in
theorem m_write (l : Launch) (D : va_G) {sh : s_S} {M : s_M} {sz r : Int} (h : mds sh M r) {t : List Int} {x n_ : Int} (hx : 0 ≤ x ∧ x < 18446744073709551616) (hn : -2147483648 ≤ n_ ∧ n_ < 2147483648) (htl : t.length ≤ 320) (hl : M r 2 = (t.length : Int)) : Sp l D y_Model_write prog_14_method_18_code 7 (some .int) 3 0 0 [vr r, vl x, vi n_] sh M sz (fun v' sh' M' sz' => ∃ b : Int, v' = some (vi b) ∧ ((wrk t x n_) = 0 → b = (t.length : Int) + n_) ∧ (-2147483648 ≤ b ∧ b < 2147483648) ∧ sh' = sh ∧ sz' = sz ∧ M' r 0 = wrk t x n_ ∧ mds sh M' r ∧ fr (fun z => r ≤ z ∧ z ≤ r + 28) M M') := by
  have hr0 := h.2.1
  refine Sp.ofGo (own := "CiteForgeModel") (nm := "write") (by decide) rfl rfl (Nat.le_of_ble_eq_true rfl) (lv := [(0, vr r), (1, vl x), (3, vi n_)]) rfl ?_
  intro g X
  refine go_aload_n X d_Model_write_0 rfl rfl ?_
  refine go_iconst (v := 0) X d_Model_write_1 ?_
  refine go_put (x := 0) (v := vi 0) X f_Model_95 h.1 rfl d_Model_write_2 rfl rfl rfl ?_
  generalize hM2 : m_s M r 0 0 = M1
  have e3 : M1 r 2 = (t.length : Int) := by rw [← hM2]; exact (m_s_n (fun q => absurd q.2 (by decide))).trans hl
  have e4 : M1 r 0 = 0 := by rw [← hM2, m_s_s]
  have fr5 : fr (fun z => r ≤ z ∧ z ≤ r + 28) M M1 := fun z hz => by
    have hz1 : ¬ (r ≤ z ∧ z ≤ r + 28) := hz
    rw [← hM2]; exact (m_s_a (by omega))
  have md6 : mds sh M1 r := by rw [← hM2]; exact h.put (by decide)
  refine go_iload_n X d_Model_write_5 rfl rfl ?_
  refine go_iconst (v := 1) X d_Model_write_6 ?_
  refine go_bipush (v := 8) X d_Model_write_7 (by decide) ?_
  refine go_cSf (st2 := [vi (s_b (decide (1 ≤ n_ ∧ n_ ≤ 8)))]) (r := []) X k_Model_103 (m_within l D (by omega) (by omega) (by omega)) rfl rfl (by omega) (Nat.le_of_ble_eq_true rfl) d_Model_write_9 (by omega) (by omega) rfl ?_
  refine go_ifb_ne (tgt := 21) X d_Model_write_12 rfl (fun hq7 => ?_) (fun hq7 => ?_)
  · skip
    simp only [decide_eq_true_eq, decide_eq_false_iff_not] at hq7
    refine go_iconst (v := 1) X d_Model_write_21 ?_
    refine go_istore (lv' := [(4, vi 1), (0, vr r), (1, vl x), (3, vi n_)]) X d_Model_write_22 (by decide) rfl ?_
    refine go_iconst (v := 0) X d_Model_write_24 ?_
    refine go_istore (lv' := [(5, vi 0), (4, vi 1), (0, vr r), (1, vl x), (3, vi n_)]) X d_Model_write_25 (by decide) rfl ?_
    have lp1 : ∀ (fuel : Nat) (i : Int) (b : Bool), (0 ≤ i) → (i ≤ n_) → ((b && alc x (n_ - i).toNat i) = ala x n_) → (n_ - i).toNat < fuel → Go g 0 0 sh M1 sz 27 [(0, vr r), (1, vl x), (3, vi n_), (4, vi (s_b b)), (5, vi i)] [] := by
      intro fuel
      induction fuel with
      | zero => intro i b hi hi2 hp hm_lp1; exact absurd hm_lp1 (Nat.not_lt_zero _)
      | succ fuel ih_lp1 =>
        intro i b hi hi2 hp hm_lp1
        refine go_iload X d_Model_write_27 rfl ?_
        refine go_iload_n X d_Model_write_29 rfl rfl ?_
        refine go_icmp_ge (tgt := 84) X d_Model_write_30 rfl (by omega) (by omega) (fun hq8 => ?_) (fun hq8 => ?_)
        · skip
          have hb : b = ala x n_ := by rw [alc_end (by omega), Bool.and_true] at hp; exact hp
          refine go_iload X d_Model_write_84 rfl ?_
          refine go_ifb_ne (tgt := 95) X d_Model_write_86 rfl (fun hq9 => ?_) (fun hq9 => ?_)
          · skip
            refine go_aload_n X d_Model_write_95 rfl rfl ?_
            refine go_get (v := vi (t.length : Int)) X f_Model_131 h.1 rfl d_Model_write_96 (congrArg (s_v .int) e3) ?_
            refine go_iload_n X d_Model_write_99 rfl rfl ?_
            refine go_iadd X d_Model_write_100 ?_
            refine go_sipush (v := 320) X d_Model_write_101 (by decide) ?_
            refine go_icmp_le (tgt := 113) X d_Model_write_104 rfl (by omega) (by omega) (fun hq10 => ?_) (fun hq10 => ?_)
            · skip
              refine go_iconst (v := 0) X d_Model_write_113 ?_
              refine go_istore (lv' := [(5, vi 0), (0, vr r), (1, vl x), (3, vi n_), (4, vi (s_b b))]) X d_Model_write_114 (by decide) rfl ?_
              have lp2 : ∀ (fuel : Nat) (j : Int) (Mx : s_M), (0 ≤ j) → (j ≤ n_) → (mds sh Mx r) → (Mx r 2 = (t.length : Int)) → (Mx r 0 = 0) → (fr (fun z => r ≤ z ∧ z ≤ r + 28) M Mx) → (n_ - j).toNat < fuel → Go g 0 0 sh Mx sz 116 [(0, vr r), (1, vl x), (3, vi n_), (5, vi j)] [] := by
                intro fuel
                induction fuel with
                | zero => intro j Mx hj hj2 hmd hlx htx hfr hm_lp2; exact absurd hm_lp2 (Nat.not_lt_zero _)
                | succ fuel ih_lp2 =>
                  intro j Mx hj hj2 hmd hlx htx hfr hm_lp2
                  refine go_iload X d_Model_write_116 rfl ?_
                  refine go_iload_n X d_Model_write_118 rfl rfl ?_
                  refine go_icmp_ge (tgt := 152) X d_Model_write_119 rfl (by omega) (by omega) (fun hq11 => ?_) (fun hq11 => ?_)
                  · skip
                    refine go_aload_n X d_Model_write_152 rfl rfl ?_
                    refine go_dup X d_Model_write_153 rfl ?_
                    refine go_get (v := vi (t.length : Int)) X f_Model_131 h.1 rfl d_Model_write_154 (congrArg (s_v .int) hlx) ?_
                    refine go_iload_n X d_Model_write_157 rfl rfl ?_
                    refine go_iadd X d_Model_write_158 ?_
                    refine go_put (x := ((t.length : Int) + n_)) (v := vi ((t.length : Int) + n_)) X f_Model_131 h.1 rfl d_Model_write_159 rfl rfl rfl ?_
                    generalize hM13 : m_s Mx r 2 ((t.length : Int) + n_) = M12
                    have e14 : M12 r 0 = 0 := by rw [← hM13]; exact (m_s_n (fun q => absurd q.2 (by decide))).trans htx
                    have e15 : M12 r 2 = (t.length : Int) + n_ := by rw [← hM13, m_s_s]
                    have fr16 : fr (fun z => r ≤ z ∧ z ≤ r + 28) M M12 := fun z hz => by
                      have hz1 : ¬ (r ≤ z ∧ z ≤ r + 28) := hz
                      rw [← hM13]; exact (m_s_a (by omega)).trans (hfr z hz)
                    have md17 : mds sh M12 r := by rw [← hM13]; exact hmd.put (by decide)
                    refine go_aload_n X d_Model_write_162 rfl rfl ?_
                    refine go_get (v := vi ((t.length : Int) + n_)) X f_Model_131 h.1 rfl d_Model_write_163 (congrArg (s_v .int) e15) ?_
                    refine go_iret X d_Model_write_166 rfl ?_ (by omega) (by omega) ?_
                    · rfl
                    exact ⟨((t.length : Int) + n_), rfl, fun _ => rfl, (by omega), rfl, rfl, e14.trans ((if_pos ⟨by omega, by omega, hb.symm.trans hq9⟩).trans (if_pos (by omega)) : wrk t x n_ = 0).symm, md17, fr16⟩
                  · skip
                    refine go_aload_n X d_Model_write_122 rfl rfl ?_
                    have sg18 : sh (r + 2) = some (.inr (.int, 320)) := (hmd.2.2 1 _ rfl).1
                    have e19 : Mx r 3 = r + 2 := (hmd.2.2 1 _ rfl).2
                    refine go_get (v := vr (r + 2)) X f_Model_13 h.1 rfl d_Model_write_123 (s_varr e19 (by omega)) ?_
                    refine go_aload_n X d_Model_write_126 rfl rfl ?_
                    refine go_get (v := vi (t.length : Int)) X f_Model_131 h.1 rfl d_Model_write_127 (congrArg (s_v .int) hlx) ?_
                    refine go_iload X d_Model_write_130 rfl ?_
                    refine go_iadd X d_Model_write_132 ?_
                    refine go_lload_n X d_Model_write_133 rfl rfl ?_
                    refine go_bipush (v := 8) X d_Model_write_134 (by decide) ?_
                    refine go_iload X d_Model_write_136 rfl ?_
                    refine go_imul X d_Model_write_138 ?_
                    refine go_lshr (z := s_sar x (8 * j)) X d_Model_write_139 (l_sar _ _) ?_
                    refine go_ldc2 (x := 255) X w_kl_Model_114 (by decide) d_Model_write_140 ?_
                    refine go_land (z := by_ x j) X d_Model_write_143 (l_sarby (by omega) (by omega)) ?_
                    have hb0 := by_r x j
                    refine go_l2i X d_Model_write_144 ?_
                    refine go_iast X sg18 (by omega) (by omega) d_Model_write_145 ?_
                    generalize hM21 : m_s Mx (r + 2) ((t.length : Int) + j) (by_ x j) = M20
                    have e22 : M20 r 2 = (t.length : Int) := by rw [← hM21]; exact (m_s_n (fun q => absurd q.1 (of_ne1 (by decide)))).trans hlx
                    have e23 : M20 r 0 = 0 := by rw [← hM21]; exact (m_s_n (fun q => absurd q.1 (of_ne1 (by decide)))).trans htx
                    have e24 : M20 r 3 = r + 2 := by rw [← hM21]; exact (m_s_n (fun q => absurd q.1 (of_ne1 (by decide)))).trans e19
                    have e25 : M20 (r + 2) ((t.length : Int) + j) = by_ x j := by rw [← hM21, m_s_s]
                    have fr26 : fr (fun z => r ≤ z ∧ z ≤ r + 28) M M20 := fun z hz => by
                      have hz1 : ¬ (r ≤ z ∧ z ≤ r + 28) := hz
                      rw [← hM21]; exact (m_s_a (by omega)).trans (hfr z hz)
                    clear e19
                    have md27 : mds sh M20 r := by rw [← hM21]; exact hmd.off (m_s_a (by omega))
                    refine go_iinc (v := 1) (x := j) (lv' := [(5, vi (j + 1)), (0, vr r), (1, vl x), (3, vi n_)]) X d_Model_write_146 rfl (by decide) rfl ?_
                    refine go_goto (tgt := 116) X d_Model_write_149 rfl ?_
                    refine go_lv (lv' := [(0, vr r), (1, vl x), (3, vi n_), (5, vi (j + 1))]) X [1, 2, 3, 0] rfl ?_
                    exact ih_lp2 (j + 1) M20 (by omega) (by omega) md27 e22 e23 fr26 (by omega)
              refine go_lv (lv' := [(0, vr r), (1, vl x), (3, vi n_), (5, vi 0)]) X [1, 2, 3, 0] rfl ?_
              exact lp2 _ 0 M1 (by omega) (by omega) md6 e3 e4 fr5 (Nat.lt_succ_self _)
            · skip
              refine go_aload_n X d_Model_write_107 rfl rfl ?_
              refine go_iconst (v := 2) X d_Model_write_108 ?_
              refine go_cVf (st2 := [vi 0]) (r := []) X k_Model_128 (m_fail l D md6 (c := 2)) h.1 rfl rfl (by omega) (Nat.le_of_ble_eq_true rfl) d_Model_write_109 (by omega) (by omega) rfl ?_
              generalize hM29 : m_s M1 r 0 2 = M28
              have e30 : M28 r 2 = (t.length : Int) := by rw [← hM29]; exact (m_s_n (fun q => absurd q.2 (by decide))).trans e3
              have e31 : M28 r 0 = 2 := by rw [← hM29, m_s_s]
              have fr32 : fr (fun z => r ≤ z ∧ z ≤ r + 28) M M28 := fun z hz => by
                have hz1 : ¬ (r ≤ z ∧ z ≤ r + 28) := hz
                rw [← hM29]; exact (m_s_a (by omega)).trans (fr5 z hz)
              clear e3 e4 fr5
              have md33 : mds sh M28 r := by rw [← hM29]; exact md6.put (by decide)
              refine go_iret X d_Model_write_112 rfl ?_ (by omega) (by omega) ?_
              · rfl
              exact ⟨0, rfl, fun hcz => absurd (((if_pos ⟨by omega, by omega, hb.symm.trans hq9⟩).trans (if_neg (by omega)) : wrk t x n_ = 2).symm.trans hcz) (by decide), (by omega), rfl, rfl, e31.trans ((if_pos ⟨by omega, by omega, hb.symm.trans hq9⟩).trans (if_neg (by omega)) : wrk t x n_ = 2).symm, md33, fr32⟩
          · skip
            refine go_aload_n X d_Model_write_89 rfl rfl ?_
            refine go_iconst (v := 1) X d_Model_write_90 ?_
            refine go_cVf (st2 := [vi 0]) (r := []) X k_Model_128 (m_fail l D md6 (c := 1)) h.1 rfl rfl (by omega) (Nat.le_of_ble_eq_true rfl) d_Model_write_91 (by omega) (by omega) rfl ?_
            generalize hM35 : m_s M1 r 0 1 = M34
            have e36 : M34 r 2 = (t.length : Int) := by rw [← hM35]; exact (m_s_n (fun q => absurd q.2 (by decide))).trans e3
            have e37 : M34 r 0 = 1 := by rw [← hM35, m_s_s]
            have fr38 : fr (fun z => r ≤ z ∧ z ≤ r + 28) M M34 := fun z hz => by
              have hz1 : ¬ (r ≤ z ∧ z ≤ r + 28) := hz
              rw [← hM35]; exact (m_s_a (by omega)).trans (fr5 z hz)
            clear e3 e4 fr5
            have md39 : mds sh M34 r := by rw [← hM35]; exact md6.put (by decide)
            refine go_iret X d_Model_write_94 rfl ?_ (by omega) (by omega) ?_
            · rfl
            exact ⟨0, rfl, fun hcz => absurd ((if_neg (by rintro ⟨g1, g2, g3⟩; rw [← hb, hq9] at g3; exact absurd g3 (by decide)) : wrk t x n_ = 1).symm.trans hcz) (by decide), (by omega), rfl, rfl, e37.trans (if_neg (by rintro ⟨g1, g2, g3⟩; rw [← hb, hq9] at g3; exact absurd g3 (by decide)) : wrk t x n_ = 1).symm, md39, fr38⟩
        · skip
          refine go_lload_n X d_Model_write_33 rfl rfl ?_
          refine go_bipush (v := 8) X d_Model_write_34 (by decide) ?_
          refine go_iload X d_Model_write_36 rfl ?_
          refine go_imul X d_Model_write_38 ?_
          refine go_lshr (z := s_sar x (8 * i)) X d_Model_write_39 (l_sar _ _) ?_
          refine go_ldc2 (x := 255) X w_kl_Model_114 (by decide) d_Model_write_40 ?_
          refine go_land (z := by_ x i) X d_Model_write_43 (l_sarby (by omega) (by omega)) ?_
          have hb0 := by_r x i
          refine go_l2i X d_Model_write_44 ?_
          refine go_istore (lv' := [(6, vi (by_ x i)), (0, vr r), (1, vl x), (3, vi n_), (4, vi (s_b b)), (5, vi i)]) X d_Model_write_45 (by decide) rfl ?_
          refine go_iload X d_Model_write_47 rfl ?_
          refine go_ifb_eq (tgt := 75) X d_Model_write_49 rfl (fun hq40 => ?_) (fun hq40 => ?_)
          · skip
            refine go_iconst (v := 0) X d_Model_write_75 ?_
            refine go_istore (lv' := [(4, vi 0), (6, vi (by_ x i)), (0, vr r), (1, vl x), (3, vi n_), (5, vi i)]) X d_Model_write_76 (by decide) rfl ?_
            have hn : (false && alc x (n_ - (i + 1)).toNat (i + 1)) = ala x n_ := by
              rw [hq40, Bool.false_and] at hp
              rw [← hp]
              rfl
            refine go_iinc (v := 1) (x := i) (lv' := [(5, vi (i + 1)), (4, vi 0), (6, vi (by_ x i)), (0, vr r), (1, vl x), (3, vi n_)]) X d_Model_write_78 rfl (by decide) rfl ?_
            refine go_goto (tgt := 27) X d_Model_write_81 rfl ?_
            refine go_lv (lv' := [(0, vr r), (1, vl x), (3, vi n_), (4, vi 0), (5, vi (i + 1))]) X [3, 4, 5, 1, 0] rfl ?_
            exact ih_lp1 (i + 1) false (by omega) (by omega) hn (by omega)
          · skip
            refine go_iload X d_Model_write_52 rfl ?_
            refine go_bipush (v := 10) X d_Model_write_54 (by decide) ?_
            refine go_icmp_eq (tgt := 71) X d_Model_write_56 rfl (by omega) (by omega) (fun hq41 => ?_) (fun hq41 => ?_)
            · skip
              refine go_iconst (v := 1) X d_Model_write_71 ?_
              refine go_goto (tgt := 76) X d_Model_write_72 rfl ?_
              refine go_istore (lv' := [(4, vi 1), (6, vi (by_ x i)), (0, vr r), (1, vl x), (3, vi n_), (5, vi i)]) X d_Model_write_76 (by decide) rfl ?_
              have ho : okc (by_ x i) = true := by unfold okc; rw [decide_eq_true hq41, Bool.or_true]
              have hn : (true && alc x (n_ - (i + 1)).toNat (i + 1)) = ala x n_ := by
                rw [hq40, alc_nxt (by omega) ho] at hp
                exact hp
              refine go_iinc (v := 1) (x := i) (lv' := [(5, vi (i + 1)), (4, vi 1), (6, vi (by_ x i)), (0, vr r), (1, vl x), (3, vi n_)]) X d_Model_write_78 rfl (by decide) rfl ?_
              refine go_goto (tgt := 27) X d_Model_write_81 rfl ?_
              refine go_lv (lv' := [(0, vr r), (1, vl x), (3, vi n_), (4, vi 1), (5, vi (i + 1))]) X [3, 4, 5, 1, 0] rfl ?_
              exact ih_lp1 (i + 1) true (by omega) (by omega) hn (by omega)
            · skip
              refine go_iload X d_Model_write_59 rfl ?_
              refine go_bipush (v := 32) X d_Model_write_61 (by decide) ?_
              refine go_bipush (v := 126) X d_Model_write_63 (by decide) ?_
              refine go_cSf (st2 := [vi (s_b (decide (32 ≤ by_ x i ∧ by_ x i ≤ 126)))]) (r := []) X k_Model_103 (m_within l D (by omega) (by omega) (by omega)) rfl rfl (by omega) (Nat.le_of_ble_eq_true rfl) d_Model_write_65 (by omega) (by omega) rfl ?_
              refine go_ifb_eq (tgt := 75) X d_Model_write_68 rfl (fun hq42 => ?_) (fun hq42 => ?_)
              · skip
                refine go_iconst (v := 0) X d_Model_write_75 ?_
                refine go_istore (lv' := [(4, vi 0), (6, vi (by_ x i)), (0, vr r), (1, vl x), (3, vi n_), (5, vi i)]) X d_Model_write_76 (by decide) rfl ?_
                have hn : (false && alc x (n_ - (i + 1)).toNat (i + 1)) = ala x n_ := by
                  have ho : okc (by_ x i) = false := by unfold okc p_prn; rw [hq42, decide_eq_false hq41]; rfl
                  rw [hq40, alc_no (by omega) ho] at hp
                  rw [← hp]
                  rfl
                refine go_iinc (v := 1) (x := i) (lv' := [(5, vi (i + 1)), (4, vi 0), (6, vi (by_ x i)), (0, vr r), (1, vl x), (3, vi n_)]) X d_Model_write_78 rfl (by decide) rfl ?_
                refine go_goto (tgt := 27) X d_Model_write_81 rfl ?_
                refine go_lv (lv' := [(0, vr r), (1, vl x), (3, vi n_), (4, vi 0), (5, vi (i + 1))]) X [3, 4, 5, 1, 0] rfl ?_
                exact ih_lp1 (i + 1) false (by omega) (by omega) hn (by omega)
              · skip
                refine go_iconst (v := 1) X d_Model_write_71 ?_
                refine go_goto (tgt := 76) X d_Model_write_72 rfl ?_
                refine go_istore (lv' := [(4, vi 1), (6, vi (by_ x i)), (0, vr r), (1, vl x), (3, vi n_), (5, vi i)]) X d_Model_write_76 (by decide) rfl ?_
                have ho : okc (by_ x i) = true := by unfold okc p_prn; rw [hq42]; rfl
                have hn : (true && alc x (n_ - (i + 1)).toNat (i + 1)) = ala x n_ := by
                  rw [hq40, alc_nxt (by omega) ho] at hp
                  exact hp
                refine go_iinc (v := 1) (x := i) (lv' := [(5, vi (i + 1)), (4, vi 1), (6, vi (by_ x i)), (0, vr r), (1, vl x), (3, vi n_)]) X d_Model_write_78 rfl (by decide) rfl ?_
                refine go_goto (tgt := 27) X d_Model_write_81 rfl ?_
                refine go_lv (lv' := [(0, vr r), (1, vl x), (3, vi n_), (4, vi 1), (5, vi (i + 1))]) X [3, 4, 5, 1, 0] rfl ?_
                exact ih_lp1 (i + 1) true (by omega) (by omega) hn (by omega)
    refine go_lv (lv' := [(0, vr r), (1, vl x), (3, vi n_), (4, vi 1), (5, vi 0)]) X [2, 3, 4, 1, 0] rfl ?_
    exact lp1 _ 0 true (by omega) (by omega) (Bool.true_and _) (Nat.lt_succ_self _)
  · skip
    simp only [decide_eq_true_eq, decide_eq_false_iff_not] at hq7
    refine go_aload_n X d_Model_write_15 rfl rfl ?_
    refine go_iconst (v := 1) X d_Model_write_16 ?_
    refine go_cVf (st2 := [vi 0]) (r := []) X k_Model_128 (m_fail l D md6 (c := 1)) h.1 rfl rfl (by omega) (Nat.le_of_ble_eq_true rfl) d_Model_write_17 (by omega) (by omega) rfl ?_
    generalize hM44 : m_s M1 r 0 1 = M43
    have e45 : M43 r 2 = (t.length : Int) := by rw [← hM44]; exact (m_s_n (fun q => absurd q.2 (by decide))).trans e3
    have e46 : M43 r 0 = 1 := by rw [← hM44, m_s_s]
    have fr47 : fr (fun z => r ≤ z ∧ z ≤ r + 28) M M43 := fun z hz => by
      have hz1 : ¬ (r ≤ z ∧ z ≤ r + 28) := hz
      rw [← hM44]; exact (m_s_a (by omega)).trans (fr5 z hz)
    clear e3 e4 fr5
    have md48 : mds sh M43 r := by rw [← hM44]; exact md6.put (by decide)
    refine go_iret X d_Model_write_20 rfl ?_ (by omega) (by omega) ?_
    · rfl
    exact ⟨0, rfl, fun hcz => absurd ((if_neg (by rintro ⟨g1, g2, g3⟩; omega) : wrk t x n_ = 1).symm.trans hcz) (by decide), (by omega), rfl, rfl, e46.trans (if_neg (by rintro ⟨g1, g2, g3⟩; omega) : wrk t x n_ = 1).symm, md48, fr47⟩
set_option maxHeartbeats 4000000 in
set_option maxRecDepth 100000 in
theorem m_push (l : Launch) (D : va_G) {sh : s_S} {M : s_M} {sz r : Int} (h : mds sh M r) {d f y n : Int} (hd : 0 ≤ d ∧ d < 8) (hl : M r 29 = d) : Sp l D y_Model_push prog_14_method_83_code 5 none 1 0 0 [vr r, vi f, vi y, vl n] sh M sz (pF none sh (m_s (m_s (m_s (m_s (m_s M (r + 18) d f) (r + 19) d 0) (r + 20) d y) (r + 21) d n) r 29 (d + 1)) sz) := by
  have hr0 := h.2.1
  refine Sp.ofGo (own := "CiteForgeModel") (nm := "push") (by decide) rfl rfl (Nat.le_of_ble_eq_true rfl) (lv := [(0, vr r), (1, vi f), (2, vi y), (3, vl n)]) rfl ?_
  intro g X
  refine go_aload_n X d_Model_push_0 rfl rfl ?_
  refine go_get (v := vi d) X f_Model_383 h.1 rfl d_Model_push_1 (congrArg (s_v .int) hl) ?_
  refine go_bipush (v := 8) X d_Model_push_4 (by decide) ?_
  refine go_icmp_ne (tgt := 15) X d_Model_push_6 rfl (by omega) (by omega) (fun hq1 => ?_) (fun hq1 => ?_)
  · skip
    refine go_aload_n X d_Model_push_15 rfl rfl ?_
    have sg2 : sh (r + 18) = some (.inr (.int, 8)) := (h.2.2 17 _ rfl).1
    have e3 : M r 33 = r + 18 := (h.2.2 17 _ rfl).2
    refine go_get (v := vr (r + 18)) X f_Model_62 h.1 rfl d_Model_push_16 (s_varr e3 (by omega)) ?_
    refine go_aload_n X d_Model_push_19 rfl rfl ?_
    refine go_get (v := vi d) X f_Model_383 h.1 rfl d_Model_push_20 (congrArg (s_v .int) hl) ?_
    refine go_iload_n X d_Model_push_23 rfl rfl ?_
    refine go_iast X sg2 (by omega) (by omega) d_Model_push_24 ?_
    generalize hM5 : m_s M (r + 18) d f = M4
    have e6 : M4 r 29 = d := by rw [← hM5]; exact (m_s_n (fun q => absurd q.1 (of_ne1 (by decide)))).trans hl
    have e7 : M4 r 33 = r + 18 := by rw [← hM5]; exact (m_s_n (fun q => absurd q.1 (of_ne1 (by decide)))).trans e3
    have e8 : M4 (r + 18) d = f := by rw [← hM5, m_s_s]
    have fr9 : fr (fun z => r ≤ z ∧ z ≤ r + 28) M M4 := fun z hz => by
      have hz1 : ¬ (r ≤ z ∧ z ≤ r + 28) := hz
      rw [← hM5]; exact (m_s_a (by omega))
    clear e3
    have md10 : mds sh M4 r := by rw [← hM5]; exact h.off (m_s_a (by omega))
    refine go_aload_n X d_Model_push_25 rfl rfl ?_
    have sg11 : sh (r + 19) = some (.inr (.int, 8)) := (md10.2.2 18 _ rfl).1
    have e12 : M4 r 34 = r + 19 := (md10.2.2 18 _ rfl).2
    refine go_get (v := vr (r + 19)) X f_Model_65 h.1 rfl d_Model_push_26 (s_varr e12 (by omega)) ?_
    refine go_aload_n X d_Model_push_29 rfl rfl ?_
    refine go_get (v := vi d) X f_Model_383 h.1 rfl d_Model_push_30 (congrArg (s_v .int) e6) ?_
    refine go_iconst (v := 0) X d_Model_push_33 ?_
    refine go_iast X sg11 (by omega) (by omega) d_Model_push_34 ?_
    generalize hM14 : m_s M4 (r + 19) d 0 = M13
    have e15 : M13 r 29 = d := by rw [← hM14]; exact (m_s_n (fun q => absurd q.1 (of_ne1 (by decide)))).trans e6
    have e16 : M13 r 33 = r + 18 := by rw [← hM14]; exact (m_s_n (fun q => absurd q.1 (of_ne1 (by decide)))).trans e7
    have e17 : M13 (r + 18) d = f := by rw [← hM14]; exact (m_s_n (fun q => absurd q.1 (of_ne (by decide)))).trans e8
    have e18 : M13 r 34 = r + 19 := by rw [← hM14]; exact (m_s_n (fun q => absurd q.1 (of_ne1 (by decide)))).trans e12
    have e19 : M13 (r + 19) d = 0 := by rw [← hM14, m_s_s]
    have fr20 : fr (fun z => r ≤ z ∧ z ≤ r + 28) M M13 := fun z hz => by
      have hz1 : ¬ (r ≤ z ∧ z ≤ r + 28) := hz
      rw [← hM14]; exact (m_s_a (by omega)).trans (fr9 z hz)
    clear e12 e6 e7 e8 fr9
    have md21 : mds sh M13 r := by rw [← hM14]; exact md10.off (m_s_a (by omega))
    refine go_aload_n X d_Model_push_35 rfl rfl ?_
    have sg22 : sh (r + 20) = some (.inr (.int, 8)) := (md21.2.2 19 _ rfl).1
    have e23 : M13 r 35 = r + 20 := (md21.2.2 19 _ rfl).2
    refine go_get (v := vr (r + 20)) X f_Model_68 h.1 rfl d_Model_push_36 (s_varr e23 (by omega)) ?_
    refine go_aload_n X d_Model_push_39 rfl rfl ?_
    refine go_get (v := vi d) X f_Model_383 h.1 rfl d_Model_push_40 (congrArg (s_v .int) e15) ?_
    refine go_iload_n X d_Model_push_43 rfl rfl ?_
    refine go_iast X sg22 (by omega) (by omega) d_Model_push_44 ?_
    generalize hM25 : m_s M13 (r + 20) d y = M24
    have e26 : M24 r 29 = d := by rw [← hM25]; exact (m_s_n (fun q => absurd q.1 (of_ne1 (by decide)))).trans e15
    have e27 : M24 r 33 = r + 18 := by rw [← hM25]; exact (m_s_n (fun q => absurd q.1 (of_ne1 (by decide)))).trans e16
    have e28 : M24 (r + 18) d = f := by rw [← hM25]; exact (m_s_n (fun q => absurd q.1 (of_ne (by decide)))).trans e17
    have e29 : M24 r 34 = r + 19 := by rw [← hM25]; exact (m_s_n (fun q => absurd q.1 (of_ne1 (by decide)))).trans e18
    have e30 : M24 (r + 19) d = 0 := by rw [← hM25]; exact (m_s_n (fun q => absurd q.1 (of_ne (by decide)))).trans e19
    have e31 : M24 r 35 = r + 20 := by rw [← hM25]; exact (m_s_n (fun q => absurd q.1 (of_ne1 (by decide)))).trans e23
    have e32 : M24 (r + 20) d = y := by rw [← hM25, m_s_s]
    have fr33 : fr (fun z => r ≤ z ∧ z ≤ r + 28) M M24 := fun z hz => by
      have hz1 : ¬ (r ≤ z ∧ z ≤ r + 28) := hz
      rw [← hM25]; exact (m_s_a (by omega)).trans (fr20 z hz)
    clear e15 e16 e17 e18 e19 e23 fr20
    have md34 : mds sh M24 r := by rw [← hM25]; exact md21.off (m_s_a (by omega))
    refine go_aload_n X d_Model_push_45 rfl rfl ?_
    have sg35 : sh (r + 21) = some (.inr (.long, 8)) := (md34.2.2 20 _ rfl).1
    have e36 : M24 r 36 = r + 21 := (md34.2.2 20 _ rfl).2
    refine go_get (v := vr (r + 21)) X f_Model_71 h.1 rfl d_Model_push_46 (s_varr e36 (by omega)) ?_
    refine go_aload_n X d_Model_push_49 rfl rfl ?_
    refine go_get (v := vi d) X f_Model_383 h.1 rfl d_Model_push_50 (congrArg (s_v .int) e26) ?_
    refine go_lload_n X d_Model_push_53 rfl rfl ?_
    refine go_last X sg35 (by omega) (by omega) d_Model_push_54 ?_
    generalize hM38 : m_s M24 (r + 21) d n = M37
    have e39 : M37 r 29 = d := by rw [← hM38]; exact (m_s_n (fun q => absurd q.1 (of_ne1 (by decide)))).trans e26
    have e40 : M37 r 33 = r + 18 := by rw [← hM38]; exact (m_s_n (fun q => absurd q.1 (of_ne1 (by decide)))).trans e27
    have e41 : M37 (r + 18) d = f := by rw [← hM38]; exact (m_s_n (fun q => absurd q.1 (of_ne (by decide)))).trans e28
    have e42 : M37 r 34 = r + 19 := by rw [← hM38]; exact (m_s_n (fun q => absurd q.1 (of_ne1 (by decide)))).trans e29
    have e43 : M37 (r + 19) d = 0 := by rw [← hM38]; exact (m_s_n (fun q => absurd q.1 (of_ne (by decide)))).trans e30
    have e44 : M37 r 35 = r + 20 := by rw [← hM38]; exact (m_s_n (fun q => absurd q.1 (of_ne1 (by decide)))).trans e31
    have e45 : M37 (r + 20) d = y := by rw [← hM38]; exact (m_s_n (fun q => absurd q.1 (of_ne (by decide)))).trans e32
    have e46 : M37 r 36 = r + 21 := by rw [← hM38]; exact (m_s_n (fun q => absurd q.1 (of_ne1 (by decide)))).trans e36
    have e47 : M37 (r + 21) d = n := by rw [← hM38, m_s_s]
    have fr48 : fr (fun z => r ≤ z ∧ z ≤ r + 28) M M37 := fun z hz => by
      have hz1 : ¬ (r ≤ z ∧ z ≤ r + 28) := hz
      rw [← hM38]; exact (m_s_a (by omega)).trans (fr33 z hz)
    clear e26 e27 e28 e29 e30 e31 e32 e36 fr33
    have md49 : mds sh M37 r := by rw [← hM38]; exact md34.off (m_s_a (by omega))
    refine go_aload_n X d_Model_push_55 rfl rfl ?_
    refine go_dup X d_Model_push_56 rfl ?_
    refine go_get (v := vi d) X f_Model_383 h.1 rfl d_Model_push_57 (congrArg (s_v .int) e39) ?_
    refine go_iconst (v := 1) X d_Model_push_60 ?_
    refine go_iadd X d_Model_push_61 ?_
    refine go_put (x := (d + 1)) (v := vi (d + 1)) X f_Model_383 h.1 rfl d_Model_push_62 rfl rfl rfl ?_
    generalize hM51 : m_s M37 r 29 (d + 1) = M50
    have e52 : M50 r 33 = r + 18 := by rw [← hM51]; exact (m_s_n (fun q => absurd q.2 (by decide))).trans e40
    have e53 : M50 (r + 18) d = f := by rw [← hM51]; exact (m_s_n (fun q => absurd q.1 (of_ne0 (by decide)))).trans e41
    have e54 : M50 r 34 = r + 19 := by rw [← hM51]; exact (m_s_n (fun q => absurd q.2 (by decide))).trans e42
    have e55 : M50 (r + 19) d = 0 := by rw [← hM51]; exact (m_s_n (fun q => absurd q.1 (of_ne0 (by decide)))).trans e43
    have e56 : M50 r 35 = r + 20 := by rw [← hM51]; exact (m_s_n (fun q => absurd q.2 (by decide))).trans e44
    have e57 : M50 (r + 20) d = y := by rw [← hM51]; exact (m_s_n (fun q => absurd q.1 (of_ne0 (by decide)))).trans e45
    have e58 : M50 r 36 = r + 21 := by rw [← hM51]; exact (m_s_n (fun q => absurd q.2 (by decide))).trans e46
    have e59 : M50 (r + 21) d = n := by rw [← hM51]; exact (m_s_n (fun q => absurd q.1 (of_ne0 (by decide)))).trans e47
    have e60 : M50 r 29 = d + 1 := by rw [← hM51, m_s_s]
    have fr61 : fr (fun z => r ≤ z ∧ z ≤ r + 28) M M50 := fun z hz => by
      have hz1 : ¬ (r ≤ z ∧ z ≤ r + 28) := hz
      rw [← hM51]; exact (m_s_a (by omega)).trans (fr48 z hz)
    clear e39 e40 e41 e42 e43 e44 e45 e46 e47 fr48
    have md62 : mds sh M50 r := by rw [← hM51]; exact md49.put (by decide)
    refine go_vret X d_Model_push_65 rfl (by omega) (by omega) ?_
    exact ⟨rfl, rfl, by rw [← hM51, ← hM38, ← hM25, ← hM14, ← hM5], rfl⟩
  · skip
    exfalso
    omega
set_option maxHeartbeats 4000000 in
set_option maxRecDepth 100000 in
theorem m_ended0 (l : Launch) (D : va_G) {sh : s_S} {M : s_M} {sz r : Int} (h : mds sh M r) (hl : M r 29 = 1) (hwy : M (r + 20) 0 = 0) : Sp l D y_Model_ended prog_14_method_85_code 3 none 1 0 0 [vr r] sh M sz (pF none sh (m_s M r 29 0) sz) := by
  have hr0 := h.2.1
  refine Sp.ofGo (own := "CiteForgeModel") (nm := "ended") (by decide) rfl rfl (Nat.le_of_ble_eq_true rfl) (lv := [(0, vr r)]) rfl ?_
  intro g X
  refine go_aload_n X d_Model_ended_0 rfl rfl ?_
  refine go_dup X d_Model_ended_1 rfl ?_
  refine go_get (v := vi 1) X f_Model_383 h.1 rfl d_Model_ended_2 (congrArg (s_v .int) hl) ?_
  refine go_iconst (v := 1) X d_Model_ended_5 ?_
  refine go_isub X d_Model_ended_6 ?_
  refine go_top (v' := vi 0) X rfl ?_
  refine go_put (x := 0) (v := vi 0) X f_Model_383 h.1 rfl d_Model_ended_7 rfl rfl rfl ?_
  generalize hM2 : m_s M r 29 0 = M1
  have e3 : M1 (r + 20) 0 = 0 := by rw [← hM2]; exact (m_s_n (fun q => absurd q.1 (of_ne0 (by decide)))).trans hwy
  have e4 : M1 r 29 = 0 := by rw [← hM2, m_s_s]
  have fr5 : fr (fun z => r ≤ z ∧ z ≤ r + 28) M M1 := fun z hz => by
    have hz1 : ¬ (r ≤ z ∧ z ≤ r + 28) := hz
    rw [← hM2]; exact (m_s_a (by omega))
  have md6 : mds sh M1 r := by rw [← hM2]; exact h.put (by decide)
  refine go_aload_n X d_Model_ended_10 rfl rfl ?_
  have sg7 : sh (r + 21) = some (.inr (.long, 8)) := (md6.2.2 20 _ rfl).1
  have e8 : M1 r 36 = r + 21 := (md6.2.2 20 _ rfl).2
  refine go_get (v := vr (r + 21)) X f_Model_71 h.1 rfl d_Model_ended_11 (s_varr e8 (by omega)) ?_
  refine go_aload_n X d_Model_ended_14 rfl rfl ?_
  refine go_get (v := vi 0) X f_Model_383 h.1 rfl d_Model_ended_15 (congrArg (s_v .int) e4) ?_
  refine go_lald X sg7 (by omega) (by omega) d_Model_ended_18 ?_
  refine go_lstore_n (lv' := [(1, vl (M1 (r + 21) 0)), (0, vr r)]) X d_Model_ended_19 rfl (by decide) rfl ?_
  refine go_aload_n X d_Model_ended_20 rfl rfl ?_
  have sg9 : sh (r + 20) = some (.inr (.int, 8)) := (md6.2.2 19 _ rfl).1
  have e10 : M1 r 35 = r + 20 := (md6.2.2 19 _ rfl).2
  refine go_get (v := vr (r + 20)) X f_Model_68 h.1 rfl d_Model_ended_21 (s_varr e10 (by omega)) ?_
  refine go_aload_n X d_Model_ended_24 rfl rfl ?_
  refine go_get (v := vi 0) X f_Model_383 h.1 rfl d_Model_ended_25 (congrArg (s_v .int) e4) ?_
  refine go_iald X sg9 (by omega) (by omega) d_Model_ended_28 ?_
  refine go_top (v' := vi 0) X (by rw [e3]) ?_
  refine go_iconst (v := 1) X d_Model_ended_29 ?_
  refine go_icmp_ne (tgt := 55) X d_Model_ended_30 rfl (by omega) (by omega) (fun _ => ?_) (fun h9 => absurd h9 (by decide))
  refine go_aload_n X d_Model_ended_55 rfl rfl ?_
  refine go_get (v := vr (r + 20)) X f_Model_68 h.1 rfl d_Model_ended_56 (s_varr e10 (by omega)) ?_
  refine go_aload_n X d_Model_ended_59 rfl rfl ?_
  refine go_get (v := vi 0) X f_Model_383 h.1 rfl d_Model_ended_60 (congrArg (s_v .int) e4) ?_
  refine go_iald X sg9 (by omega) (by omega) d_Model_ended_63 ?_
  refine go_top (v' := vi 0) X (by rw [e3]) ?_
  refine go_iconst (v := 2) X d_Model_ended_64 ?_
  refine go_icmp_ne (tgt := 84) X d_Model_ended_65 rfl (by omega) (by omega) (fun _ => ?_) (fun h9 => absurd h9 (by decide))
  refine go_vret X d_Model_ended_84 rfl (by omega) (by omega) ?_
  exact ⟨rfl, rfl, hM2.symm, rfl⟩
set_option maxHeartbeats 4000000 in
set_option maxRecDepth 100000 in
theorem m_once0 (l : Launch) (D : va_G) {sh : s_S} {M : s_M} {sz r : Int} (h : mds sh M r) {f : Int} {Z : Int → Int} (hf : 0 ≤ f ∧ f < 6) (hZ0 : ∀ f, Z f = 0) (hmu : M r 32 = 0) (g1 : M (r + 12) = Z) : Sp l D y_Model_once prog_14_method_86_code 2 none 3 0 0 [vr r, vi f] sh M sz (fun v' sh' M' sz' => v' = none ∧ sh' = sh ∧ sz' = sz ∧ (∀ j, j ≠ 29 → M' r j = M r j) ∧ fr (fun z => z = r ∨ (r + 18 ≤ z ∧ z ≤ r + 21)) M M') := by
  have hr0 := h.2.1
  refine Sp.ofGo (own := "CiteForgeModel") (nm := "once") (by decide) rfl rfl (Nat.le_of_ble_eq_true rfl) (lv := [(0, vr r), (1, vi f)]) rfl ?_
  intro g X
  refine go_aload_n X d_Model_once_0 rfl rfl ?_
  refine go_iconst (v := 0) X d_Model_once_1 ?_
  refine go_put (x := 0) (v := vi 0) X f_Model_383 h.1 rfl d_Model_once_2 rfl rfl rfl ?_
  generalize hM2 : m_s M r 29 0 = M1
  have e3 : M1 r 32 = 0 := by rw [← hM2]; exact (m_s_n (fun q => absurd q.2 (by decide))).trans hmu
  have e4 : M1 r 29 = 0 := by rw [← hM2, m_s_s]
  have fr5 : fr (fun z => z = r ∨ (r + 18 ≤ z ∧ z ≤ r + 21)) M M1 := fun z hz => by
    have hz1 : ¬ (z = r ∨ (r + 18 ≤ z ∧ z ≤ r + 21)) := hz
    rw [← hM2]; exact (m_s_a (by omega))
  have rw6 : M1 (r + 12) = Z := by rw [← hM2]; exact (m_s_a (of_ne0 (by decide))).trans g1
  have md7 : mds sh M1 r := by rw [← hM2]; exact h.put (by decide)
  refine go_aload_n X d_Model_once_5 rfl rfl ?_
  refine go_iload_n X d_Model_once_6 rfl rfl ?_
  refine go_iconst (v := 0) X d_Model_once_7 ?_
  refine go_lconst (x := 0) X d_Model_once_8 (by decide) ?_
  have sg8 : sh (r + 18) = some (.inr (.int, 8)) := (md7.2.2 17 _ rfl).1
  have e9 : M1 r 33 = r + 18 := (md7.2.2 17 _ rfl).2
  have sg10 : sh (r + 19) = some (.inr (.int, 8)) := (md7.2.2 18 _ rfl).1
  have e11 : M1 r 34 = r + 19 := (md7.2.2 18 _ rfl).2
  have sg12 : sh (r + 20) = some (.inr (.int, 8)) := (md7.2.2 19 _ rfl).1
  have e13 : M1 r 35 = r + 20 := (md7.2.2 19 _ rfl).2
  have sg14 : sh (r + 21) = some (.inr (.long, 8)) := (md7.2.2 20 _ rfl).1
  have e15 : M1 r 36 = r + 21 := (md7.2.2 20 _ rfl).2
  refine go_cVf (st2 := []) (r := []) X k_Model_394 (m_push l D md7 (d := 0) (by omega) e4) h.1 rfl rfl (by omega) (Nat.le_of_ble_eq_true rfl) d_Model_once_9 (by omega) (by omega) rfl ?_
  rw [show (0 : Int) + 1 = 1 from rfl]
  generalize hM17 : m_s M1 (r + 18) 0 f = M16
  have e18 : M16 r 32 = 0 := by rw [← hM17]; exact (m_s_n (fun q => absurd q.1 (of_ne1 (by decide)))).trans e3
  have e19 : M16 r 29 = 0 := by rw [← hM17]; exact (m_s_n (fun q => absurd q.1 (of_ne1 (by decide)))).trans e4
  have e20 : M16 r 33 = r + 18 := by rw [← hM17]; exact (m_s_n (fun q => absurd q.1 (of_ne1 (by decide)))).trans e9
  have e21 : M16 r 34 = r + 19 := by rw [← hM17]; exact (m_s_n (fun q => absurd q.1 (of_ne1 (by decide)))).trans e11
  have e22 : M16 r 35 = r + 20 := by rw [← hM17]; exact (m_s_n (fun q => absurd q.1 (of_ne1 (by decide)))).trans e13
  have e23 : M16 r 36 = r + 21 := by rw [← hM17]; exact (m_s_n (fun q => absurd q.1 (of_ne1 (by decide)))).trans e15
  have e24 : M16 (r + 18) 0 = f := by rw [← hM17, m_s_s]
  have fr25 : fr (fun z => z = r ∨ (r + 18 ≤ z ∧ z ≤ r + 21)) M M16 := fun z hz => by
    have hz1 : ¬ (z = r ∨ (r + 18 ≤ z ∧ z ≤ r + 21)) := hz
    rw [← hM17]; exact (m_s_a (by omega)).trans (fr5 z hz)
  have rw26 : M16 (r + 12) = Z := by rw [← hM17]; exact (m_s_a (of_ne (by decide))).trans rw6
  clear e11 e13 e15 e3 e4 e9 fr5 rw6
  have md27 : mds sh M16 r := by rw [← hM17]; exact md7.off (m_s_a (by omega))
  generalize hM29 : m_s M16 (r + 19) 0 0 = M28
  have e30 : M28 r 32 = 0 := by rw [← hM29]; exact (m_s_n (fun q => absurd q.1 (of_ne1 (by decide)))).trans e18
  have e31 : M28 r 29 = 0 := by rw [← hM29]; exact (m_s_n (fun q => absurd q.1 (of_ne1 (by decide)))).trans e19
  have e32 : M28 r 33 = r + 18 := by rw [← hM29]; exact (m_s_n (fun q => absurd q.1 (of_ne1 (by decide)))).trans e20
  have e33 : M28 r 34 = r + 19 := by rw [← hM29]; exact (m_s_n (fun q => absurd q.1 (of_ne1 (by decide)))).trans e21
  have e34 : M28 r 35 = r + 20 := by rw [← hM29]; exact (m_s_n (fun q => absurd q.1 (of_ne1 (by decide)))).trans e22
  have e35 : M28 r 36 = r + 21 := by rw [← hM29]; exact (m_s_n (fun q => absurd q.1 (of_ne1 (by decide)))).trans e23
  have e36 : M28 (r + 18) 0 = f := by rw [← hM29]; exact (m_s_n (fun q => absurd q.1 (of_ne (by decide)))).trans e24
  have e37 : M28 (r + 19) 0 = 0 := by rw [← hM29, m_s_s]
  have fr38 : fr (fun z => z = r ∨ (r + 18 ≤ z ∧ z ≤ r + 21)) M M28 := fun z hz => by
    have hz1 : ¬ (z = r ∨ (r + 18 ≤ z ∧ z ≤ r + 21)) := hz
    rw [← hM29]; exact (m_s_a (by omega)).trans (fr25 z hz)
  have rw39 : M28 (r + 12) = Z := by rw [← hM29]; exact (m_s_a (of_ne (by decide))).trans rw26
  clear e18 e19 e20 e21 e22 e23 e24 fr25 rw26
  have md40 : mds sh M28 r := by rw [← hM29]; exact md27.off (m_s_a (by omega))
  generalize hM42 : m_s M28 (r + 20) 0 0 = M41
  have e43 : M41 r 32 = 0 := by rw [← hM42]; exact (m_s_n (fun q => absurd q.1 (of_ne1 (by decide)))).trans e30
  have e44 : M41 r 29 = 0 := by rw [← hM42]; exact (m_s_n (fun q => absurd q.1 (of_ne1 (by decide)))).trans e31
  have e45 : M41 r 33 = r + 18 := by rw [← hM42]; exact (m_s_n (fun q => absurd q.1 (of_ne1 (by decide)))).trans e32
  have e46 : M41 r 34 = r + 19 := by rw [← hM42]; exact (m_s_n (fun q => absurd q.1 (of_ne1 (by decide)))).trans e33
  have e47 : M41 r 35 = r + 20 := by rw [← hM42]; exact (m_s_n (fun q => absurd q.1 (of_ne1 (by decide)))).trans e34
  have e48 : M41 r 36 = r + 21 := by rw [← hM42]; exact (m_s_n (fun q => absurd q.1 (of_ne1 (by decide)))).trans e35
  have e49 : M41 (r + 18) 0 = f := by rw [← hM42]; exact (m_s_n (fun q => absurd q.1 (of_ne (by decide)))).trans e36
  have e50 : M41 (r + 19) 0 = 0 := by rw [← hM42]; exact (m_s_n (fun q => absurd q.1 (of_ne (by decide)))).trans e37
  have e51 : M41 (r + 20) 0 = 0 := by rw [← hM42, m_s_s]
  have fr52 : fr (fun z => z = r ∨ (r + 18 ≤ z ∧ z ≤ r + 21)) M M41 := fun z hz => by
    have hz1 : ¬ (z = r ∨ (r + 18 ≤ z ∧ z ≤ r + 21)) := hz
    rw [← hM42]; exact (m_s_a (by omega)).trans (fr38 z hz)
  have rw53 : M41 (r + 12) = Z := by rw [← hM42]; exact (m_s_a (of_ne (by decide))).trans rw39
  clear e30 e31 e32 e33 e34 e35 e36 e37 fr38 rw39
  have md54 : mds sh M41 r := by rw [← hM42]; exact md40.off (m_s_a (by omega))
  generalize hM56 : m_s M41 (r + 21) 0 0 = M55
  have e57 : M55 r 32 = 0 := by rw [← hM56]; exact (m_s_n (fun q => absurd q.1 (of_ne1 (by decide)))).trans e43
  have e58 : M55 r 29 = 0 := by rw [← hM56]; exact (m_s_n (fun q => absurd q.1 (of_ne1 (by decide)))).trans e44
  have e59 : M55 r 33 = r + 18 := by rw [← hM56]; exact (m_s_n (fun q => absurd q.1 (of_ne1 (by decide)))).trans e45
  have e60 : M55 r 34 = r + 19 := by rw [← hM56]; exact (m_s_n (fun q => absurd q.1 (of_ne1 (by decide)))).trans e46
  have e61 : M55 r 35 = r + 20 := by rw [← hM56]; exact (m_s_n (fun q => absurd q.1 (of_ne1 (by decide)))).trans e47
  have e62 : M55 r 36 = r + 21 := by rw [← hM56]; exact (m_s_n (fun q => absurd q.1 (of_ne1 (by decide)))).trans e48
  have e63 : M55 (r + 18) 0 = f := by rw [← hM56]; exact (m_s_n (fun q => absurd q.1 (of_ne (by decide)))).trans e49
  have e64 : M55 (r + 19) 0 = 0 := by rw [← hM56]; exact (m_s_n (fun q => absurd q.1 (of_ne (by decide)))).trans e50
  have e65 : M55 (r + 20) 0 = 0 := by rw [← hM56]; exact (m_s_n (fun q => absurd q.1 (of_ne (by decide)))).trans e51
  have e66 : M55 (r + 21) 0 = 0 := by rw [← hM56, m_s_s]
  have fr67 : fr (fun z => z = r ∨ (r + 18 ≤ z ∧ z ≤ r + 21)) M M55 := fun z hz => by
    have hz1 : ¬ (z = r ∨ (r + 18 ≤ z ∧ z ≤ r + 21)) := hz
    rw [← hM56]; exact (m_s_a (by omega)).trans (fr52 z hz)
  have rw68 : M55 (r + 12) = Z := by rw [← hM56]; exact (m_s_a (of_ne (by decide))).trans rw53
  clear e43 e44 e45 e46 e47 e48 e49 e50 e51 fr52 rw53
  have md69 : mds sh M55 r := by rw [← hM56]; exact md54.off (m_s_a (by omega))
  generalize hM71 : m_s M55 r 29 1 = M70
  have e72 : M70 r 32 = 0 := by rw [← hM71]; exact (m_s_n (fun q => absurd q.2 (by decide))).trans e57
  have e73 : M70 r 33 = r + 18 := by rw [← hM71]; exact (m_s_n (fun q => absurd q.2 (by decide))).trans e59
  have e74 : M70 r 34 = r + 19 := by rw [← hM71]; exact (m_s_n (fun q => absurd q.2 (by decide))).trans e60
  have e75 : M70 r 35 = r + 20 := by rw [← hM71]; exact (m_s_n (fun q => absurd q.2 (by decide))).trans e61
  have e76 : M70 r 36 = r + 21 := by rw [← hM71]; exact (m_s_n (fun q => absurd q.2 (by decide))).trans e62
  have e77 : M70 (r + 18) 0 = f := by rw [← hM71]; exact (m_s_n (fun q => absurd q.1 (of_ne0 (by decide)))).trans e63
  have e78 : M70 (r + 19) 0 = 0 := by rw [← hM71]; exact (m_s_n (fun q => absurd q.1 (of_ne0 (by decide)))).trans e64
  have e79 : M70 (r + 20) 0 = 0 := by rw [← hM71]; exact (m_s_n (fun q => absurd q.1 (of_ne0 (by decide)))).trans e65
  have e80 : M70 (r + 21) 0 = 0 := by rw [← hM71]; exact (m_s_n (fun q => absurd q.1 (of_ne0 (by decide)))).trans e66
  have e81 : M70 r 29 = 1 := by rw [← hM71, m_s_s]
  have fr82 : fr (fun z => z = r ∨ (r + 18 ≤ z ∧ z ≤ r + 21)) M M70 := fun z hz => by
    have hz1 : ¬ (z = r ∨ (r + 18 ≤ z ∧ z ≤ r + 21)) := hz
    rw [← hM71]; exact (m_s_a (by omega)).trans (fr67 z hz)
  have rw83 : M70 (r + 12) = Z := by rw [← hM71]; exact (m_s_a (of_ne0 (by decide))).trans rw68
  clear e57 e58 e59 e60 e61 e62 e63 e64 e65 e66 fr67 rw68
  have md84 : mds sh M70 r := by rw [← hM71]; exact md69.put (by decide)
  refine go_aload_n X d_Model_once_12 rfl rfl ?_
  refine go_get (v := vi 1) X f_Model_383 h.1 rfl d_Model_once_13 (congrArg (s_v .int) e81) ?_
  refine go_if_le (tgt := 70) X d_Model_once_16 rfl (by omega) (fun h9 => absurd h9 (by decide)) (fun _ => ?_)
  refine go_aload_n X d_Model_once_19 rfl rfl ?_
  refine go_get (v := vi 0) X f_Model_386 h.1 rfl d_Model_once_20 (congrArg (s_v .boolean) e72) ?_
  refine go_if_ne (tgt := 70) X d_Model_once_23 rfl (by omega) (fun h9 => absurd h9 (by decide)) (fun _ => ?_)
  refine go_aload_n X d_Model_once_26 rfl rfl ?_
  refine go_get (v := vr (r + 19)) X f_Model_65 h.1 rfl d_Model_once_27 (s_varr e74 (by omega)) ?_
  refine go_aload_n X d_Model_once_30 rfl rfl ?_
  refine go_get (v := vi 1) X f_Model_383 h.1 rfl d_Model_once_31 (congrArg (s_v .int) e81) ?_
  refine go_iconst (v := 1) X d_Model_once_34 ?_
  refine go_isub X d_Model_once_35 ?_
  refine go_top (v' := vi 0) X rfl ?_
  refine go_iald X sg10 (by omega) (by omega) d_Model_once_36 ?_
  refine go_top (v' := vi 0) X (by rw [e78]) ?_
  refine go_aload_n X d_Model_once_37 rfl rfl ?_
  have sg85 : sh (r + 12) = some (.inr (.int, 6)) := (md84.2.2 11 _ rfl).1
  have e86 : M70 r 22 = r + 12 := (md84.2.2 11 _ rfl).2
  refine go_get (v := vr (r + 12)) X f_Model_44 h.1 rfl d_Model_once_38 (s_varr e86 (by omega)) ?_
  refine go_aload_n X d_Model_once_41 rfl rfl ?_
  refine go_get (v := vr (r + 18)) X f_Model_62 h.1 rfl d_Model_once_42 (s_varr e73 (by omega)) ?_
  refine go_aload_n X d_Model_once_45 rfl rfl ?_
  refine go_get (v := vi 1) X f_Model_383 h.1 rfl d_Model_once_46 (congrArg (s_v .int) e81) ?_
  refine go_iconst (v := 1) X d_Model_once_49 ?_
  refine go_isub X d_Model_once_50 ?_
  refine go_top (v' := vi 0) X rfl ?_
  refine go_iald X sg8 (by omega) (by omega) d_Model_once_51 ?_
  refine go_top (v' := vi f) X (by rw [e77]) ?_
  refine go_iald X sg85 (by omega) (by omega) d_Model_once_52 ?_
  refine go_top (v' := vi (Z f)) X (by rw [rw83]) ?_
  have hzf := hZ0 f
  refine go_icmp_ge (tgt := 63) X d_Model_once_53 rfl (by omega) (by omega) (fun hq87 => ?_) (fun hq87 => ?_)
  · skip
    refine go_aload_n X d_Model_once_63 rfl rfl ?_
    refine go_cVf (st2 := []) (r := []) X k_Model_411 (m_ended0 l D md84 e81 e79) h.1 rfl rfl (by omega) (Nat.le_of_ble_eq_true rfl) d_Model_once_64 (by omega) (by omega) rfl ?_
    generalize hM89 : m_s M70 r 29 0 = M88
    have e90 : M88 r 32 = 0 := by rw [← hM89]; exact (m_s_n (fun q => absurd q.2 (by decide))).trans e72
    have e91 : M88 r 33 = r + 18 := by rw [← hM89]; exact (m_s_n (fun q => absurd q.2 (by decide))).trans e73
    have e92 : M88 r 34 = r + 19 := by rw [← hM89]; exact (m_s_n (fun q => absurd q.2 (by decide))).trans e74
    have e93 : M88 r 35 = r + 20 := by rw [← hM89]; exact (m_s_n (fun q => absurd q.2 (by decide))).trans e75
    have e94 : M88 r 36 = r + 21 := by rw [← hM89]; exact (m_s_n (fun q => absurd q.2 (by decide))).trans e76
    have e95 : M88 (r + 18) 0 = f := by rw [← hM89]; exact (m_s_n (fun q => absurd q.1 (of_ne0 (by decide)))).trans e77
    have e96 : M88 (r + 19) 0 = 0 := by rw [← hM89]; exact (m_s_n (fun q => absurd q.1 (of_ne0 (by decide)))).trans e78
    have e97 : M88 (r + 20) 0 = 0 := by rw [← hM89]; exact (m_s_n (fun q => absurd q.1 (of_ne0 (by decide)))).trans e79
    have e98 : M88 (r + 21) 0 = 0 := by rw [← hM89]; exact (m_s_n (fun q => absurd q.1 (of_ne0 (by decide)))).trans e80
    have e99 : M88 r 22 = r + 12 := by rw [← hM89]; exact (m_s_n (fun q => absurd q.2 (by decide))).trans e86
    have e100 : M88 r 29 = 0 := by rw [← hM89, m_s_s]
    have fr101 : fr (fun z => z = r ∨ (r + 18 ≤ z ∧ z ≤ r + 21)) M M88 := fun z hz => by
      have hz1 : ¬ (z = r ∨ (r + 18 ≤ z ∧ z ≤ r + 21)) := hz
      rw [← hM89]; exact (m_s_a (by omega)).trans (fr82 z hz)
    have rw102 : M88 (r + 12) = Z := by rw [← hM89]; exact (m_s_a (of_ne0 (by decide))).trans rw83
    clear e72 e73 e74 e75 e76 e77 e78 e79 e80 e81 e86 fr82 rw83
    have md103 : mds sh M88 r := by rw [← hM89]; exact md84.put (by decide)
    refine go_goto (tgt := 12) X d_Model_once_67 rfl ?_
    refine go_aload_n X d_Model_once_12 rfl rfl ?_
    refine go_get (v := vi 0) X f_Model_383 h.1 rfl d_Model_once_13 (congrArg (s_v .int) e100) ?_
    refine go_if_le (tgt := 70) X d_Model_once_16 rfl (by omega) (fun _ => ?_) (fun h9 => absurd h9 (by decide))
    refine go_vret X d_Model_once_70 rfl (by omega) (by omega) ?_
    have hrow : ∀ j, j ≠ 29 → M88 r j = M r j := fun j hj => by
      rw [← hM89, m_s_n (by omega), ← hM71, m_s_n (by omega), ← hM56, m_s_n (by omega), ← hM42, m_s_n (by omega), ← hM29, m_s_n (by omega), ← hM17, m_s_n (by omega), ← hM2, m_s_n (by omega)]
    exact ⟨rfl, rfl, rfl, hrow, fr101⟩
  · skip
    exfalso
    have := hZ0 f
    omega
set_option maxHeartbeats 4000000 in
set_option maxRecDepth 100000 in
theorem m_run0 (l : Launch) (D : va_G) {sh : s_S} {M : s_M} {sz r : Int} (h : mds sh M r) {f y : Int} {Z : Int → Int} (hf : -2147483648 ≤ f ∧ f < 2147483648) (hy : -2147483648 ≤ y ∧ y < 2147483648) (hZ0 : ∀ f, Z f = 0) (hli : M r 15 = 0) (g1 : M (r + 12) = Z) : Sp l D y_Model_run prog_14_method_87_code 4 (some .int) 5 0 0 [vr r, vi f, vi y] sh M sz (fun v' sh' M' sz' => ∃ b : Int, v' = some (vi b) ∧ ((rnk f y) = 0 → b = 0) ∧ (-2147483648 ≤ b ∧ b < 2147483648) ∧ sh' = sh ∧ sz' = sz ∧ M' r 0 = rnk f y ∧ mds sh M' r ∧ fr (fun z => r ≤ z ∧ z ≤ r + 28) M M') := by
  have hr0 := h.2.1
  refine Sp.ofGo (own := "CiteForgeModel") (nm := "run") (by decide) rfl rfl (Nat.le_of_ble_eq_true rfl) (lv := [(0, vr r), (1, vi f), (2, vi y)]) rfl ?_
  intro g X
  refine go_aload_n X d_Model_run_0 rfl rfl ?_
  refine go_iconst (v := 0) X d_Model_run_1 ?_
  refine go_put (x := 0) (v := vi 0) X f_Model_95 h.1 rfl d_Model_run_2 rfl rfl rfl ?_
  generalize hM2 : m_s M r 0 0 = M1
  have e3 : M1 r 15 = 0 := by rw [← hM2]; exact (m_s_n (fun q => absurd q.2 (by decide))).trans hli
  have e4 : M1 r 0 = 0 := by rw [← hM2, m_s_s]
  have fr5 : fr (fun z => r ≤ z ∧ z ≤ r + 28) M M1 := fun z hz => by
    have hz1 : ¬ (r ≤ z ∧ z ≤ r + 28) := hz
    rw [← hM2]; exact (m_s_a (by omega))
  have rw6 : M1 (r + 12) = Z := by rw [← hM2]; exact (m_s_a (of_ne0 (by decide))).trans g1
  have md7 : mds sh M1 r := by rw [← hM2]; exact h.put (by decide)
  refine go_iload_n X d_Model_run_5 rfl rfl ?_
  refine go_iconst (v := 0) X d_Model_run_6 ?_
  refine go_iconst (v := 5) X d_Model_run_7 ?_
  refine go_cSf (st2 := [vi (s_b (decide (0 ≤ f ∧ f ≤ 5)))]) (r := []) X k_Model_103 (m_within l D (by omega) (by omega) (by omega)) rfl rfl (by omega) (Nat.le_of_ble_eq_true rfl) d_Model_run_8 (by omega) (by omega) rfl ?_
  refine go_ifb_eq (tgt := 23) X d_Model_run_11 rfl (fun hq8 => ?_) (fun hq8 => ?_)
  · skip
    simp only [decide_eq_true_eq, decide_eq_false_iff_not] at hq8
    refine go_aload_n X d_Model_run_23 rfl rfl ?_
    refine go_iconst (v := 1) X d_Model_run_24 ?_
    refine go_cVf (st2 := [vi 0]) (r := []) X k_Model_128 (m_fail l D md7 (c := 1)) h.1 rfl rfl (by omega) (Nat.le_of_ble_eq_true rfl) d_Model_run_25 (by omega) (by omega) rfl ?_
    generalize hM10 : m_s M1 r 0 1 = M9
    have e11 : M9 r 15 = 0 := by rw [← hM10]; exact (m_s_n (fun q => absurd q.2 (by decide))).trans e3
    have e12 : M9 r 0 = 1 := by rw [← hM10, m_s_s]
    have fr13 : fr (fun z => r ≤ z ∧ z ≤ r + 28) M M9 := fun z hz => by
      have hz1 : ¬ (r ≤ z ∧ z ≤ r + 28) := hz
      rw [← hM10]; exact (m_s_a (by omega)).trans (fr5 z hz)
    have rw14 : M9 (r + 12) = Z := by rw [← hM10]; exact (m_s_a (of_ne0 (by decide))).trans rw6
    clear e3 e4 fr5 rw6
    have md15 : mds sh M9 r := by rw [← hM10]; exact md7.put (by decide)
    refine go_iret X d_Model_run_28 rfl ?_ (by omega) (by omega) ?_
    · rfl
    exact ⟨0, rfl, fun hcz => absurd ((if_neg (by omega) : rnk f y = 1).symm.trans hcz) (by decide), (by omega), rfl, rfl, e12.trans (if_neg (by omega) : rnk f y = 1).symm, md15, fr13⟩
  · skip
    simp only [decide_eq_true_eq, decide_eq_false_iff_not] at hq8
    refine go_iload_n X d_Model_run_14 rfl rfl ?_
    refine go_iconst (v := 0) X d_Model_run_15 ?_
    refine go_iconst (v := 2) X d_Model_run_16 ?_
    refine go_cSf (st2 := [vi (s_b (decide (0 ≤ y ∧ y ≤ 2)))]) (r := []) X k_Model_103 (m_within l D (by omega) (by omega) (by omega)) rfl rfl (by omega) (Nat.le_of_ble_eq_true rfl) d_Model_run_17 (by omega) (by omega) rfl ?_
    refine go_ifb_ne (tgt := 29) X d_Model_run_20 rfl (fun hq16 => ?_) (fun hq16 => ?_)
    · skip
      simp only [decide_eq_true_eq, decide_eq_false_iff_not] at hq16
      refine go_aload_n X d_Model_run_29 rfl rfl ?_
      refine go_iconst (v := 0) X d_Model_run_30 ?_
      refine go_put (x := 0) (v := vi 0) X f_Model_389 h.1 rfl d_Model_run_31 rfl rfl rfl ?_
      generalize hM18 : m_s M1 r 30 0 = M17
      have e19 : M17 r 15 = 0 := by rw [← hM18]; exact (m_s_n (fun q => absurd q.2 (by decide))).trans e3
      have e20 : M17 r 0 = 0 := by rw [← hM18]; exact (m_s_n (fun q => absurd q.2 (by decide))).trans e4
      have e21 : M17 r 30 = 0 := by rw [← hM18, m_s_s]
      have fr22 : fr (fun z => r ≤ z ∧ z ≤ r + 28) M M17 := fun z hz => by
        have hz1 : ¬ (r ≤ z ∧ z ≤ r + 28) := hz
        rw [← hM18]; exact (m_s_a (by omega)).trans (fr5 z hz)
      have rw23 : M17 (r + 12) = Z := by rw [← hM18]; exact (m_s_a (of_ne0 (by decide))).trans rw6
      clear e3 e4 fr5 rw6
      have md24 : mds sh M17 r := by rw [← hM18]; exact md7.put (by decide)
      refine go_aload_n X d_Model_run_34 rfl rfl ?_
      refine go_iconst (v := 0) X d_Model_run_35 ?_
      refine go_put (x := 0) (v := vi 0) X f_Model_386 h.1 rfl d_Model_run_36 rfl rfl rfl ?_
      generalize hM26 : m_s M17 r 32 0 = M25
      have e27 : M25 r 15 = 0 := by rw [← hM26]; exact (m_s_n (fun q => absurd q.2 (by decide))).trans e19
      have e28 : M25 r 0 = 0 := by rw [← hM26]; exact (m_s_n (fun q => absurd q.2 (by decide))).trans e20
      have e29 : M25 r 30 = 0 := by rw [← hM26]; exact (m_s_n (fun q => absurd q.2 (by decide))).trans e21
      have e30 : M25 r 32 = 0 := by rw [← hM26, m_s_s]
      have fr31 : fr (fun z => r ≤ z ∧ z ≤ r + 28) M M25 := fun z hz => by
        have hz1 : ¬ (r ≤ z ∧ z ≤ r + 28) := hz
        rw [← hM26]; exact (m_s_a (by omega)).trans (fr22 z hz)
      have rw32 : M25 (r + 12) = Z := by rw [← hM26]; exact (m_s_a (of_ne0 (by decide))).trans rw23
      clear e19 e20 e21 fr22 rw23
      have md33 : mds sh M25 r := by rw [← hM26]; exact md24.put (by decide)
      refine go_aload_n X d_Model_run_39 rfl rfl ?_
      refine go_iconst (v := (-1)) X d_Model_run_40 ?_
      refine go_put (x := (-1)) (v := vi (-1)) X f_Model_279 h.1 rfl d_Model_run_41 rfl rfl rfl ?_
      generalize hM35 : m_s M25 r 31 (-1) = M34
      have e36 : M34 r 15 = 0 := by rw [← hM35]; exact (m_s_n (fun q => absurd q.2 (by decide))).trans e27
      have e37 : M34 r 0 = 0 := by rw [← hM35]; exact (m_s_n (fun q => absurd q.2 (by decide))).trans e28
      have e38 : M34 r 30 = 0 := by rw [← hM35]; exact (m_s_n (fun q => absurd q.2 (by decide))).trans e29
      have e39 : M34 r 32 = 0 := by rw [← hM35]; exact (m_s_n (fun q => absurd q.2 (by decide))).trans e30
      have e40 : M34 r 31 = (-1) := by rw [← hM35, m_s_s]
      have fr41 : fr (fun z => r ≤ z ∧ z ≤ r + 28) M M34 := fun z hz => by
        have hz1 : ¬ (r ≤ z ∧ z ≤ r + 28) := hz
        rw [← hM35]; exact (m_s_a (by omega)).trans (fr31 z hz)
      have rw42 : M34 (r + 12) = Z := by rw [← hM35]; exact (m_s_a (of_ne0 (by decide))).trans rw32
      clear e27 e28 e29 e30 fr31 rw32
      have md43 : mds sh M34 r := by rw [← hM35]; exact md33.put (by decide)
      refine go_iload_n X d_Model_run_44 rfl rfl ?_
      refine go_if_ne (tgt := 53) X d_Model_run_45 rfl (by omega) (fun hq44 => ?_) (fun hq44 => ?_)
      · skip
        refine go_iconst (v := 0) X d_Model_run_53 ?_
        refine go_istore_n (lv' := [(3, vi 0), (0, vr r), (1, vi f), (2, vi y)]) X d_Model_run_54 rfl (by decide) rfl ?_
        refine go_iload_n X d_Model_run_55 rfl rfl ?_
        refine go_if_le (tgt := 111) X d_Model_run_56 rfl (by omega) (fun hq45 => ?_) (fun hq45 => ?_)
        · skip
          refine go_aload_n X d_Model_run_111 rfl rfl ?_
          refine go_get (v := vi 0) X f_Model_386 h.1 rfl d_Model_run_112 (congrArg (s_v .boolean) e39) ?_
          refine go_if_eq (tgt := 126) X d_Model_run_115 rfl (by omega) (fun _ => ?_) (fun h9 => absurd h9 (by decide))
          refine go_aload_n X d_Model_run_126 rfl rfl ?_
          refine go_get (v := vi 0) X f_Model_389 h.1 rfl d_Model_run_127 (congrArg (s_v .int) e38) ?_
          refine go_iret X d_Model_run_130 rfl ?_ (by omega) (by omega) ?_
          · rfl
          exact ⟨0, rfl, fun _ => rfl, (by omega), rfl, rfl, e37.trans (if_pos (by omega) : rnk f y = 0).symm, md43, fr41⟩
        · skip
          refine go_iload_n X d_Model_run_59 rfl rfl ?_
          refine go_aload_n X d_Model_run_60 rfl rfl ?_
          refine go_get (v := vi 0) X f_Model_210 h.1 rfl d_Model_run_61 (congrArg (s_v .int) e36) ?_
          refine go_icmp_ge (tgt := 111) X d_Model_run_64 rfl (by omega) (by omega) (fun _ => ?_) (fun h9 => absurd h9 (by decide))
          refine go_aload_n X d_Model_run_111 rfl rfl ?_
          refine go_get (v := vi 0) X f_Model_386 h.1 rfl d_Model_run_112 (congrArg (s_v .boolean) e39) ?_
          refine go_if_eq (tgt := 126) X d_Model_run_115 rfl (by omega) (fun _ => ?_) (fun h9 => absurd h9 (by decide))
          refine go_aload_n X d_Model_run_126 rfl rfl ?_
          refine go_get (v := vi 0) X f_Model_389 h.1 rfl d_Model_run_127 (congrArg (s_v .int) e38) ?_
          refine go_iret X d_Model_run_130 rfl ?_ (by omega) (by omega) ?_
          · rfl
          exact ⟨0, rfl, fun _ => rfl, (by omega), rfl, rfl, e37.trans (if_pos (by omega) : rnk f y = 0).symm, md43, fr41⟩
      · skip
        refine go_aload_n X d_Model_run_48 rfl rfl ?_
        refine go_iload_n X d_Model_run_49 rfl rfl ?_
        have sg52 : sh (r + 12) = some (.inr (.int, 6)) := (md43.2.2 11 _ rfl).1
        have e53 : M34 r 22 = r + 12 := (md43.2.2 11 _ rfl).2
        refine go_cV (st2 := []) (r := []) X k_Model_414 (m_once0 l D md43 (by omega) hZ0 e39 rw42) h.1 rfl rfl (by omega) (Nat.le_of_ble_eq_true rfl) d_Model_run_50 (by omega) (by omega) (fun v' sh' M46 sz' hp => ?_)
        obtain ⟨e47, e48, e49, hr50, fr51⟩ := hp
        subst e47
        rw [e48, e49]
        show Go g 0 0 sh M46 sz 53 [(0, vr r), (1, vi f), (2, vi y)] []
        have e54 : M46 r 15 = 0 := (hr50 15 (by decide)).trans e36
        have e55 : M46 r 0 = 0 := (hr50 0 (by decide)).trans e37
        have e56 : M46 r 30 = 0 := (hr50 30 (by decide)).trans e38
        have e57 : M46 r 32 = 0 := (hr50 32 (by decide)).trans e39
        have e58 : M46 r 31 = (-1) := (hr50 31 (by decide)).trans e40
        have e59 : M46 r 22 = r + 12 := (hr50 22 (by decide)).trans e53
        have md60 : mds sh M46 r := ⟨md43.1, md43.2.1, fun j q hq => ⟨(md43.2.2 j q hq).1, by
          have h1 := List.all_eq_true.mp (show mL.all (fun q => q.2.2.1 != 29) = true by decide) q (List.mem_of_getElem? hq)
          rw [hr50 _ (fun e => by rw [e] at h1; simp at h1)]
          exact (md43.2.2 j q hq).2⟩⟩
        have fr61 : fr (fun z => r ≤ z ∧ z ≤ r + 28) M M46 := fun z hz => by
          have hz1 : ¬ (r ≤ z ∧ z ≤ r + 28) := hz
          exact (fr51 z (by omega)).trans (fr41 z hz)
        refine go_iconst (v := 0) X d_Model_run_53 ?_
        refine go_istore_n (lv' := [(3, vi 0), (0, vr r), (1, vi f), (2, vi y)]) X d_Model_run_54 rfl (by decide) rfl ?_
        refine go_iload_n X d_Model_run_55 rfl rfl ?_
        refine go_if_le (tgt := 111) X d_Model_run_56 rfl (by omega) (fun hq62 => ?_) (fun hq62 => ?_)
        · skip
          refine go_aload_n X d_Model_run_111 rfl rfl ?_
          refine go_get (v := vi 0) X f_Model_386 h.1 rfl d_Model_run_112 (congrArg (s_v .boolean) e57) ?_
          refine go_if_eq (tgt := 126) X d_Model_run_115 rfl (by omega) (fun _ => ?_) (fun h9 => absurd h9 (by decide))
          refine go_aload_n X d_Model_run_126 rfl rfl ?_
          refine go_get (v := vi 0) X f_Model_389 h.1 rfl d_Model_run_127 (congrArg (s_v .int) e56) ?_
          refine go_iret X d_Model_run_130 rfl ?_ (by omega) (by omega) ?_
          · rfl
          exact ⟨0, rfl, fun _ => rfl, (by omega), rfl, rfl, e55.trans (if_pos (by omega) : rnk f y = 0).symm, md60, fr61⟩
        · skip
          refine go_iload_n X d_Model_run_59 rfl rfl ?_
          refine go_aload_n X d_Model_run_60 rfl rfl ?_
          refine go_get (v := vi 0) X f_Model_210 h.1 rfl d_Model_run_61 (congrArg (s_v .int) e54) ?_
          refine go_icmp_ge (tgt := 111) X d_Model_run_64 rfl (by omega) (by omega) (fun _ => ?_) (fun h9 => absurd h9 (by decide))
          refine go_aload_n X d_Model_run_111 rfl rfl ?_
          refine go_get (v := vi 0) X f_Model_386 h.1 rfl d_Model_run_112 (congrArg (s_v .boolean) e57) ?_
          refine go_if_eq (tgt := 126) X d_Model_run_115 rfl (by omega) (fun _ => ?_) (fun h9 => absurd h9 (by decide))
          refine go_aload_n X d_Model_run_126 rfl rfl ?_
          refine go_get (v := vi 0) X f_Model_389 h.1 rfl d_Model_run_127 (congrArg (s_v .int) e56) ?_
          refine go_iret X d_Model_run_130 rfl ?_ (by omega) (by omega) ?_
          · rfl
          exact ⟨0, rfl, fun _ => rfl, (by omega), rfl, rfl, e55.trans (if_pos (by omega) : rnk f y = 0).symm, md60, fr61⟩
    · skip
      simp only [decide_eq_true_eq, decide_eq_false_iff_not] at hq16
      refine go_aload_n X d_Model_run_23 rfl rfl ?_
      refine go_iconst (v := 1) X d_Model_run_24 ?_
      refine go_cVf (st2 := [vi 0]) (r := []) X k_Model_128 (m_fail l D md7 (c := 1)) h.1 rfl rfl (by omega) (Nat.le_of_ble_eq_true rfl) d_Model_run_25 (by omega) (by omega) rfl ?_
      generalize hM64 : m_s M1 r 0 1 = M63
      have e65 : M63 r 15 = 0 := by rw [← hM64]; exact (m_s_n (fun q => absurd q.2 (by decide))).trans e3
      have e66 : M63 r 0 = 1 := by rw [← hM64, m_s_s]
      have fr67 : fr (fun z => r ≤ z ∧ z ≤ r + 28) M M63 := fun z hz => by
        have hz1 : ¬ (r ≤ z ∧ z ≤ r + 28) := hz
        rw [← hM64]; exact (m_s_a (by omega)).trans (fr5 z hz)
      have rw68 : M63 (r + 12) = Z := by rw [← hM64]; exact (m_s_a (of_ne0 (by decide))).trans rw6
      clear e3 e4 fr5 rw6
      have md69 : mds sh M63 r := by rw [← hM64]; exact md7.put (by decide)
      refine go_iret X d_Model_run_28 rfl ?_ (by omega) (by omega) ?_
      · rfl
      exact ⟨0, rfl, fun hcz => absurd ((if_neg (by omega) : rnk f y = 1).symm.trans hcz) (by decide), (by omega), rfl, rfl, e66.trans (if_neg (by omega) : rnk f y = 1).symm, md69, fr67⟩
set_option maxHeartbeats 4000000 in
set_option maxRecDepth 100000 in
theorem m_clearText (l : Launch) (D : va_G) {sh : s_S} {M : s_M} {sz r : Int} (h : mds sh M r) {i : Int} (hi : 0 ≤ i ∧ i < 85) : Sp l D y_Model_clearText prog_14_method_7_code 2 none 1 0 0 [vr r, vi i] sh M sz (pF none sh (m_s M (r + 3) i 0) sz) := by
  have hr0 := h.2.1
  refine Sp.ofGo (own := "CiteForgeModel") (nm := "clearText") (by decide) rfl rfl (Nat.le_of_ble_eq_true rfl) (lv := [(0, vr r), (1, vi i)]) rfl ?_
  intro g X
  refine go_aload_n X d_Model_clearText_0 rfl rfl ?_
  have sg1 : sh (r + 3) = some (.inr (.int, 85)) := (h.2.2 2 _ rfl).1
  have e2 : M r 4 = r + 3 := (h.2.2 2 _ rfl).2
  refine go_get (v := vr (r + 3)) X f_Model_16 h.1 rfl d_Model_clearText_1 (s_varr e2 (by omega)) ?_
  refine go_iload_n X d_Model_clearText_4 rfl rfl ?_
  refine go_iconst (v := 0) X d_Model_clearText_5 ?_
  refine go_iast X sg1 (by omega) (by omega) d_Model_clearText_6 ?_
  generalize hM4 : m_s M (r + 3) i 0 = M3
  have e5 : M3 r 4 = r + 3 := by rw [← hM4]; exact (m_s_n (fun q => absurd q.1 (of_ne1 (by decide)))).trans e2
  have e6 : M3 (r + 3) i = 0 := by rw [← hM4, m_s_s]
  have fr7 : fr (fun z => r ≤ z ∧ z ≤ r + 28) M M3 := fun z hz => by
    have hz1 : ¬ (r ≤ z ∧ z ≤ r + 28) := hz
    rw [← hM4]; exact (m_s_a (by omega))
  clear e2
  have md8 : mds sh M3 r := by rw [← hM4]; exact h.off (m_s_a (by omega))
  refine go_vret X d_Model_clearText_7 rfl (by omega) (by omega) ?_
  exact ⟨rfl, rfl, hM4.symm, rfl⟩
set_option maxHeartbeats 4000000 in
set_option maxRecDepth 100000 in
theorem m_list0 (l : Launch) (D : va_G) {sh : s_S} {M : s_M} {sz r : Int} (h : mds sh M r) {i : Int} (hi : -2147483648 ≤ i ∧ i < 2147483648) (h1 : M r 13 = 0) (h2 : M r 6 = 0) : Sp l D y_Model_list prog_14_method_41_code 6 (some .int) 3 0 0 [vr r, vi i] sh M sz (fun v' sh' M' sz' => ∃ b : Int, v' = some (vi b) ∧ ((lsk i) = 0 → b = 0) ∧ (-2147483648 ≤ b ∧ b < 2147483648) ∧ sh' = sh ∧ sz' = sz ∧ M' r 0 = lsk i ∧ mds sh M' r ∧ fr (fun z => r ≤ z ∧ z ≤ r + 28) M M') := by
  have hr0 := h.2.1
  refine Sp.ofGo (own := "CiteForgeModel") (nm := "list") (by decide) rfl rfl (Nat.le_of_ble_eq_true rfl) (lv := [(0, vr r), (1, vi i)]) rfl ?_
  intro g X
  refine go_aload_n X d_Model_list_0 rfl rfl ?_
  refine go_iconst (v := 0) X d_Model_list_1 ?_
  refine go_put (x := 0) (v := vi 0) X f_Model_95 h.1 rfl d_Model_list_2 rfl rfl rfl ?_
  generalize hM2 : m_s M r 0 0 = M1
  have e3 : M1 r 13 = 0 := by rw [← hM2]; exact (m_s_n (fun q => absurd q.2 (by decide))).trans h1
  have e4 : M1 r 6 = 0 := by rw [← hM2]; exact (m_s_n (fun q => absurd q.2 (by decide))).trans h2
  have e5 : M1 r 0 = 0 := by rw [← hM2, m_s_s]
  have fr6 : fr (fun z => r ≤ z ∧ z ≤ r + 28) M M1 := fun z hz => by
    have hz1 : ¬ (r ≤ z ∧ z ≤ r + 28) := hz
    rw [← hM2]; exact (m_s_a (by omega))
  have md7 : mds sh M1 r := by rw [← hM2]; exact h.put (by decide)
  refine go_iload_n X d_Model_list_5 rfl rfl ?_
  refine go_iconst (v := 1) X d_Model_list_6 ?_
  refine go_icmp_ge (tgt := 16) X d_Model_list_7 rfl (by omega) (by omega) (fun hq8 => ?_) (fun hq8 => ?_)
  · skip
    refine go_aload_n X d_Model_list_16 rfl rfl ?_
    refine go_iconst (v := 0) X d_Model_list_17 ?_
    refine go_put (x := 0) (v := vi 0) X f_Model_210 h.1 rfl d_Model_list_18 rfl rfl rfl ?_
    generalize hM10 : m_s M1 r 15 0 = M9
    have e11 : M9 r 13 = 0 := by rw [← hM10]; exact (m_s_n (fun q => absurd q.2 (by decide))).trans e3
    have e12 : M9 r 6 = 0 := by rw [← hM10]; exact (m_s_n (fun q => absurd q.2 (by decide))).trans e4
    have e13 : M9 r 0 = 0 := by rw [← hM10]; exact (m_s_n (fun q => absurd q.2 (by decide))).trans e5
    have e14 : M9 r 15 = 0 := by rw [← hM10, m_s_s]
    have fr15 : fr (fun z => r ≤ z ∧ z ≤ r + 28) M M9 := fun z hz => by
      have hz1 : ¬ (r ≤ z ∧ z ≤ r + 28) := hz
      rw [← hM10]; exact (m_s_a (by omega)).trans (fr6 z hz)
    clear e3 e4 e5 fr6
    have md16 : mds sh M9 r := by rw [← hM10]; exact md7.put (by decide)
    refine go_iconst (v := 0) X d_Model_list_21 ?_
    refine go_istore_n (lv' := [(2, vi 0), (0, vr r), (1, vi i)]) X d_Model_list_22 rfl (by decide) rfl ?_
    refine go_iload_n X d_Model_list_23 rfl rfl ?_
    refine go_aload_n X d_Model_list_24 rfl rfl ?_
    refine go_get (v := vi 0) X f_Model_228 h.1 rfl d_Model_list_25 (congrArg (s_v .int) e11) ?_
    refine go_icmp_ge (tgt := 81) X d_Model_list_28 rfl (by omega) (by omega) (fun _ => ?_) (fun h9 => absurd h9 (by decide))
    refine go_aload_n X d_Model_list_81 rfl rfl ?_
    refine go_get (v := vi 0) X f_Model_210 h.1 rfl d_Model_list_82 (congrArg (s_v .int) e14) ?_
    refine go_istore_n (lv' := [(2, vi 0), (0, vr r), (1, vi i)]) X d_Model_list_85 rfl (by decide) rfl ?_
    refine go_iconst (v := 0) X d_Model_list_86 ?_
    refine go_istore_n (lv' := [(3, vi 0), (2, vi 0), (0, vr r), (1, vi i)]) X d_Model_list_87 rfl (by decide) rfl ?_
    refine go_iload_n X d_Model_list_88 rfl rfl ?_
    refine go_aload_n X d_Model_list_89 rfl rfl ?_
    refine go_get (v := vi 0) X f_Model_201 h.1 rfl d_Model_list_90 (congrArg (s_v .int) e12) ?_
    refine go_icmp_ge (tgt := 185) X d_Model_list_93 rfl (by omega) (by omega) (fun _ => ?_) (fun h9 => absurd h9 (by decide))
    refine go_iconst (v := 0) X d_Model_list_185 ?_
    refine go_istore_n (lv' := [(3, vi 0), (2, vi 0), (0, vr r), (1, vi i)]) X d_Model_list_186 rfl (by decide) rfl ?_
    have lp3 : ∀ (fuel : Nat) (j : Int) (Mx : s_M), (0 ≤ j) → (j ≤ 8) → (mds sh Mx r) → (Mx r 15 = 0) → (Mx r 0 = 0) → (fr (fun z => r ≤ z ∧ z ≤ r + 28) M Mx) → ((8 : Int) - j).toNat < fuel → Go g 0 0 sh Mx sz 187 [(0, vr r), (3, vi j)] [] := by
      intro fuel
      induction fuel with
      | zero => intro j Mx hj hj2 hmd hlx htx hfr hm_lp3; exact absurd hm_lp3 (Nat.not_lt_zero _)
      | succ fuel ih_lp3 =>
        intro j Mx hj hj2 hmd hlx htx hfr hm_lp3
        refine go_iload_n X d_Model_list_187 rfl rfl ?_
        refine go_bipush (v := 8) X d_Model_list_188 (by decide) ?_
        refine go_icmp_ge (tgt := 207) X d_Model_list_190 rfl (by omega) (by omega) (fun hq17 => ?_) (fun hq17 => ?_)
        · skip
          refine go_aload_n X d_Model_list_207 rfl rfl ?_
          refine go_get (v := vi 0) X f_Model_210 h.1 rfl d_Model_list_208 (congrArg (s_v .int) hlx) ?_
          refine go_iret X d_Model_list_211 rfl ?_ (by omega) (by omega) ?_
          · rfl
          exact ⟨0, rfl, fun _ => rfl, (by omega), rfl, rfl, htx.trans (if_neg (by omega) : lsk i = 0).symm, hmd, hfr⟩
        · skip
          refine go_aload_n X d_Model_list_193 rfl rfl ?_
          refine go_bipush (v := 62) X d_Model_list_194 (by decide) ?_
          refine go_iload_n X d_Model_list_196 rfl rfl ?_
          refine go_iadd X d_Model_list_197 ?_
          have sg18 : sh (r + 3) = some (.inr (.int, 85)) := (hmd.2.2 2 _ rfl).1
          have e19 : Mx r 4 = r + 3 := (hmd.2.2 2 _ rfl).2
          refine go_cVf (st2 := []) (r := []) X k_Model_120 (m_clearText l D hmd (by omega)) h.1 rfl rfl (by omega) (Nat.le_of_ble_eq_true rfl) d_Model_list_198 (by omega) (by omega) rfl ?_
          generalize hM21 : m_s Mx (r + 3) (62 + j) 0 = M20
          have e22 : M20 r 15 = 0 := by rw [← hM21]; exact (m_s_n (fun q => absurd q.1 (of_ne1 (by decide)))).trans hlx
          have e23 : M20 r 0 = 0 := by rw [← hM21]; exact (m_s_n (fun q => absurd q.1 (of_ne1 (by decide)))).trans htx
          have e24 : M20 r 4 = r + 3 := by rw [← hM21]; exact (m_s_n (fun q => absurd q.1 (of_ne1 (by decide)))).trans e19
          have e25 : M20 (r + 3) (62 + j) = 0 := by rw [← hM21, m_s_s]
          have fr26 : fr (fun z => r ≤ z ∧ z ≤ r + 28) M M20 := fun z hz => by
            have hz1 : ¬ (r ≤ z ∧ z ≤ r + 28) := hz
            rw [← hM21]; exact (m_s_a (by omega)).trans (hfr z hz)
          clear e19
          have md27 : mds sh M20 r := by rw [← hM21]; exact hmd.off (m_s_a (by omega))
          refine go_iinc (v := 1) (x := j) (lv' := [(3, vi (j + 1)), (0, vr r)]) X d_Model_list_201 rfl (by decide) rfl ?_
          refine go_goto (tgt := 187) X d_Model_list_204 rfl ?_
          refine go_lv (lv' := [(0, vr r), (3, vi (j + 1))]) X [1, 0] rfl ?_
          exact ih_lp3 (j + 1) M20 (by omega) (by omega) md27 e22 e23 fr26 (by omega)
    refine go_lv (lv' := [(0, vr r), (3, vi 0)]) X [2, 0] rfl ?_
    exact lp3 _ 0 M9 (by omega) (by omega) md16 e14 e13 fr15 (Nat.lt_succ_self _)
  · skip
    refine go_aload_n X d_Model_list_10 rfl rfl ?_
    refine go_iconst (v := 1) X d_Model_list_11 ?_
    refine go_cVf (st2 := [vi 0]) (r := []) X k_Model_128 (m_fail l D md7 (c := 1)) h.1 rfl rfl (by omega) (Nat.le_of_ble_eq_true rfl) d_Model_list_12 (by omega) (by omega) rfl ?_
    generalize hM29 : m_s M1 r 0 1 = M28
    have e30 : M28 r 13 = 0 := by rw [← hM29]; exact (m_s_n (fun q => absurd q.2 (by decide))).trans e3
    have e31 : M28 r 6 = 0 := by rw [← hM29]; exact (m_s_n (fun q => absurd q.2 (by decide))).trans e4
    have e32 : M28 r 0 = 1 := by rw [← hM29, m_s_s]
    have fr33 : fr (fun z => r ≤ z ∧ z ≤ r + 28) M M28 := fun z hz => by
      have hz1 : ¬ (r ≤ z ∧ z ≤ r + 28) := hz
      rw [← hM29]; exact (m_s_a (by omega)).trans (fr6 z hz)
    clear e3 e4 e5 fr6
    have md34 : mds sh M28 r := by rw [← hM29]; exact md7.put (by decide)
    refine go_iret X d_Model_list_15 rfl ?_ (by omega) (by omega) ?_
    · rfl
    exact ⟨0, rfl, fun hcz => absurd ((if_pos (by omega) : lsk i = 1).symm.trans hcz) (by decide), (by omega), rfl, rfl, e32.trans (if_pos (by omega) : lsk i = 1).symm, md34, fr33⟩
/-- the reference's check of a word's characters: good, more -/
def gsw (w : Int) (i : Int) (s : Bool × Bool) : Bool × Bool := if s.2 = true then (s.1 && (!decide (by_ w i ≠ 0) || p_wc (by_ w i)), decide (by_ w i ≠ 0)) else s
def gdd (w : Int) : Bool := (it (gsw w) ((8 : Int) - 0).toNat 0 (decide (w ≠ 0), true)).1
/-- the characters of the word, as a list; its number -/
def wls (x : Int) : Nat → Int → List Int
  | 0, _ => []
  | m + 1, i => if p_prn (by_ x i) = true then p_low (by_ x i) :: wls x m (i + 1) else []
def wnum : List Int → Int
  | [] => 0
  | d :: ds => d + 256 * wnum ds
theorem p_prn_low {c : Int} (h : p_prn c = true) : 0 < p_low c ∧ p_low c < 128 := by
  simp only [p_prn, decide_eq_true_eq] at h
  unfold p_low
  split <;> (simp only [p_cap, decide_eq_true_eq] at *; omega)
theorem p_wc_low {c : Int} : p_wc (p_low c) = p_wc c := by
  unfold p_low
  split
  · rename_i h
    simp only [p_cap, decide_eq_true_eq] at h
    have e1 : p_wc c = true := by simp only [p_wc, p_let, p_sml, p_cap, p_dig, Bool.or_eq_true, decide_eq_true_eq]; omega
    have e2 : p_wc (c + 32) = true := by simp only [p_wc, p_let, p_sml, p_cap, p_dig, Bool.or_eq_true, decide_eq_true_eq]; omega
    rw [e1, e2]
  · rfl
theorem wls_ok {x : Int} : ∀ (m : Nat) (i : Int), ∀ d ∈ wls x m i, 0 < d ∧ d < 128
  | 0, i, d, h => by cases h
  | m + 1, i, d, h => by
    unfold wls at h
    split at h
    · rename_i hp
      rcases List.mem_cons.mp h with e | e
      · rw [e]; exact p_prn_low hp
      · exact wls_ok m (i + 1) d e
    · cases h
/-- the reference's word is the number of its characters -/
theorem mst_num {x : Int} : ∀ (m : Nat) (i : Int) (s : Int), 0 ≤ i → (it (mst x) m i (true, s)).2 = s + wnum (wls x m i) * pow8 i
  | 0, i, s, h => by
    show s = s + 0 * pow8 i
    omega
  | m + 1, i, s, h => by
    show (it (mst x) m (i + 1) (mst x i (true, s))).2 = _
    by_cases hp : p_prn (by_ x i) = true
    · have e : mst x i (true, s) = (true, s + p_low (by_ x i) * pow8 i) := by unfold mst; rw [if_pos rfl, if_pos hp]
      rw [e, mst_num m (i + 1) _ (by omega)]
      have e2 : wls x (m + 1) i = p_low (by_ x i) :: wls x m (i + 1) := if_pos hp
      rw [e2, pow8_succ h]
      show s + p_low (by_ x i) * pow8 i + wnum (wls x m (i + 1)) * (256 * pow8 i) = s + (p_low (by_ x i) + 256 * wnum (wls x m (i + 1))) * pow8 i
      rw [Int.add_mul, Int.mul_comm 256 (wnum _), Int.mul_assoc (wnum _) 256 (pow8 i)]
      omega
    · have e : mst x i (true, s) = (false, s) := by unfold mst; rw [if_pos rfl, if_neg hp]
      rw [e, it_abs (mst x) (s := (false, s)) (fun j => if_neg (show ¬ (false : Bool) = true by decide))]
      have e2 : wls x (m + 1) i = [] := if_neg hp
      rw [e2]
      show s = s + 0 * pow8 i
      omega
theorem mwof_num (x : Int) : mwof x = wnum (wls x 8 0) := by
  unfold mwof
  have := mst_num (x := x) ((8 : Int) - 0).toNat 0 0 (by omega)
  rw [this]
  show 0 + wnum (wls x 8 0) * 1 = _
  omega
theorem by0 (w : Int) : by_ w 0 = w % 256 := by
  show w / pow8 0 % 256 = _
  rw [show pow8 0 = 1 from rfl, Int.ediv_one]
theorem byS {w i : Int} (h : 0 ≤ i) : by_ w (i + 1) = by_ (w / 256) i := by
  show w / pow8 (i + 1) % 256 = w / 256 / pow8 i % 256
  rw [pow8_succ h, Int.ediv_ediv_of_nonneg (by decide)]
theorem wnum_0 : ∀ (ds : List Int), (∀ d ∈ ds, 0 < d ∧ d < 128) → (wnum ds = 0 ↔ ds = []) ∧ 0 ≤ wnum ds
  | [], h => ⟨⟨fun _ => rfl, fun _ => rfl⟩, Int.le_refl _⟩
  | d :: ds, h => by
    have h1 := (wnum_0 ds (fun e he => h e (List.mem_cons_of_mem _ he))).2
    have h2 := h d List.mem_cons_self
    refine ⟨⟨fun e => ?_, fun e => by cases e⟩, ?_⟩
    · have e1 : d + 256 * wnum ds = 0 := e
      omega
    · show 0 ≤ d + 256 * wnum ds
      omega
theorem wnum_div {d : Int} {ds : List Int} (h : 0 < d ∧ d < 128) : wnum (d :: ds) / 256 = wnum ds ∧ wnum (d :: ds) % 256 = d := by
  show (d + 256 * wnum ds) / 256 = _ ∧ (d + 256 * wnum ds) % 256 = _
  omega
/-- the check walks over the characters -/
theorem gsw_all : ∀ (ds : List Int) (m : Nat) (i : Int) (w : Int) (g : Bool), 0 ≤ i → (∀ d ∈ ds, 0 < d ∧ d < 128) → (∀ j : Nat, by_ w (i + j) = by_ (wnum ds) j) → ds.length ≤ m → (it (gsw w) m i (g, true)).1 = (g && ds.all p_wc)
  | [], 0, i, w, g, h0, h, hw, hm => by
    show g = (g && true)
    rw [Bool.and_true]
  | [], m + 1, i, w, g, h0, h, hw, hm => by
    show (it (gsw w) m (i + 1) (gsw w i (g, true))).1 = (g && true)
    have e0 : by_ w i = 0 := by
      have := hw 0
      rw [show i + ((0 : Nat) : Int) = i by omega] at this
      rw [this]
      decide +kernel
    have e : gsw w i (g, true) = (g, false) := by
      unfold gsw
      rw [if_pos rfl, e0]
      simp
    rw [e, it_abs (gsw w) (s := (g, false)) (fun j => if_neg (show ¬ (false : Bool) = true by decide)), Bool.and_true]
  | d :: ds, 0, i, w, g, h0, h, hw, hm => by simp at hm
  | d :: ds, m + 1, i, w, g, h0, h, hw, hm => by
    have hd := h d List.mem_cons_self
    have hdv := wnum_div (ds := ds) hd
    have e0 : by_ w i = d := by
      have := hw 0
      rw [show i + ((0 : Nat) : Int) = i by omega] at this
      rw [this]
      show by_ (wnum (d :: ds)) 0 = d
      rw [by0]
      exact hdv.2
    show (it (gsw w) m (i + 1) (gsw w i (g, true))).1 = _
    have e : gsw w i (g, true) = (g && p_wc d, true) := by
      unfold gsw
      rw [if_pos rfl, e0]
      have : decide (d ≠ 0) = true := decide_eq_true (by omega)
      rw [this]
      rfl
    rw [e, gsw_all ds m (i + 1) w (g && p_wc d) (by omega) (fun q hq => h q (List.mem_cons_of_mem _ hq)) (fun j => by
      have h1 := hw (j + 1)
      rw [show i + ((j + 1 : Nat) : Int) = i + 1 + (j : Int) by omega] at h1
      rw [h1, show ((j + 1 : Nat) : Int) = (j : Int) + 1 by omega, byS (by omega), hdv.1]) (by simp at hm; omega)]
    show _ = (g && (p_wc d && ds.all p_wc))
    rw [Bool.and_assoc]
theorem wls_len {x : Int} : ∀ (m : Nat) (i : Int), (wls x m i).length ≤ m
  | 0, i => Nat.le_refl _
  | m + 1, i => by
    unfold wls
    split
    · have := wls_len (x := x) m (i + 1)
      simp
      exact this
    · exact Nat.zero_le _
theorem gdd_mw (x : Int) : gdd (mwof x) = (decide (mwof x ≠ 0) && (wls x 8 0).all p_wc) := by
  unfold gdd
  rw [gsw_all (wls x 8 0) ((8 : Int) - 0).toNat 0 (mwof x) _ (by omega) (wls_ok 8 0) (fun j => by rw [← mwof_num, show (0 : Int) + (j : Int) = j by omega]) (wls_len 8 0)]
/-- the class's word -/
theorem wst_num {x : Int} : ∀ (m : Nat) (i : Int) (s : Int), 0 ≤ i → (it (wst x) m i (0, s)).2 = if (wls x m i).all p_wc = true then s + wnum (wls x m i) * pow8 i else 0
  | 0, i, s, h => by
    show s = if true = true then s + 0 * pow8 i else 0
    rw [if_pos rfl]
    omega
  | m + 1, i, s, h => by
    show (it (wst x) m (i + 1) (wst x i (0, s))).2 = _
    by_cases hp : p_prn (by_ x i) = true
    · have e2 : wls x (m + 1) i = p_low (by_ x i) :: wls x m (i + 1) := if_pos hp
      have e3 : (wls x (m + 1) i).all p_wc = (p_wc (by_ x i) && (wls x m (i + 1)).all p_wc) := by
        rw [e2]
        show (p_wc (p_low (by_ x i)) && _) = _
        rw [p_wc_low]
      by_cases hq : p_wc (by_ x i) = true
      · have e : wst x i (0, s) = (0, s + p_low (by_ x i) * pow8 i) := by unfold wst; rw [if_pos rfl, if_pos hp, if_pos hq]
        rw [e, wst_num m (i + 1) _ (by omega), e3, hq, Bool.true_and]
        by_cases ha : (wls x m (i + 1)).all p_wc = true
        · rw [if_pos ha, if_pos ha, e2, pow8_succ h]
          show s + p_low (by_ x i) * pow8 i + wnum (wls x m (i + 1)) * (256 * pow8 i) = s + (p_low (by_ x i) + 256 * wnum (wls x m (i + 1))) * pow8 i
          rw [Int.add_mul, Int.mul_comm 256 (wnum _), Int.mul_assoc (wnum _) 256 (pow8 i)]
          omega
        · rw [if_neg ha, if_neg ha]
      · have e : wst x i (0, s) = (2, 0) := by unfold wst; rw [if_pos rfl, if_pos hp, if_neg hq]
        rw [e, it_abs (wst x) (s := (2, 0)) (fun j => if_neg (show ¬ (2 : Int) = 0 by decide)), e3, if_neg (by rw [Bool.and_eq_true]; exact fun q => hq q.1)]
    · have e : wst x i (0, s) = (1, s) := by unfold wst; rw [if_pos rfl, if_neg hp]
      have e2 : wls x (m + 1) i = [] := if_neg hp
      rw [e, it_abs (wst x) (s := (1, s)) (fun j => if_neg (show ¬ (1 : Int) = 0 by decide)), e2]
      show s = if true = true then s + 0 * pow8 i else 0
      rw [if_pos rfl]
      omega
theorem wof_mw (x : Int) : wof x = if gdd (mwof x) = true then mwof x else 0 := by
  have h1 : wof x = if (wls x 8 0).all p_wc = true then mwof x else 0 := by
    unfold wof
    rw [wst_num _ 0 0 (by omega), mwof_num]
    show (if (wls x 8 0).all p_wc = true then 0 + wnum (wls x 8 0) * 1 else 0) = _
    rw [show 0 + wnum (wls x 8 0) * 1 = wnum (wls x 8 0) by omega]
  rw [h1, gdd_mw]
  by_cases h2 : mwof x = 0
  · rw [h2]
    simp
  · rw [show decide (mwof x ≠ 0) = true from decide_eq_true h2, Bool.true_and]
theorem gdd_iff (x : Int) : gdd (mwof x) = true ↔ wof x ≠ 0 := by
  rw [wof_mw]
  constructor
  · intro h
    rw [if_pos h]
    rw [gdd_mw, Bool.and_eq_true, decide_eq_true_eq] at h
    exact h.1
  · intro h
    by_cases h2 : gdd (mwof x) = true
    · exact h2
    · rw [if_neg h2] at h
      exact absurd rfl h
theorem mwof_rng (x : Int) : 0 ≤ mwof x ∧ mwof x < 9223372036854775808 := by
  have key : ∀ (ds : List Int) (m : Nat), (∀ d ∈ ds, 0 < d ∧ d < 128) → ds.length ≤ m → 0 ≤ wnum ds ∧ 2 * wnum ds < 256 ^ m ∨ ds = [] := by
    intro ds
    induction ds with
    | nil => intro m _ _; exact Or.inr rfl
    | cons d ds ih =>
      intro m h hm
      refine Or.inl ?_
      cases m with
      | zero => simp at hm
      | succ m =>
        have hd := h d List.mem_cons_self
        rcases ih m (fun e he => h e (List.mem_cons_of_mem _ he)) (by simp at hm; omega) with ⟨h1, h2⟩ | h1
        · rw [Int.pow_succ]
          show 0 ≤ d + 256 * wnum ds ∧ 2 * (d + 256 * wnum ds) < _
          omega
        · subst h1
          have h3 : (0 : Int) < 256 ^ m := Int.pow_pos (by decide)
          rw [Int.pow_succ]
          show 0 ≤ d + 256 * 0 ∧ 2 * (d + 256 * 0) < _
          omega
  rw [mwof_num]
  rcases key (wls x 8 0) 8 (wls_ok 8 0) (wls_len 8 0) with ⟨h1, h2⟩ | h1
  · have : (256 : Int) ^ 8 = 18446744073709551616 := by decide
    omega
  · rw [h1]
    show (0 : Int) ≤ 0 ∧ (0 : Int) < _
    omega
set_option maxHeartbeats 4000000 in
set_option maxRecDepth 100000 in
theorem m_cite (l : Launch) (D : va_G) {sh : s_S} {M : s_M} {sz r : Int} (h : mds sh M r) {x n : Int} {WC : Int → Int} (hx : 0 ≤ x ∧ x < 18446744073709551616) (hn : 0 ≤ n ∧ n ≤ 10) (hWr : ∀ i, rL (WC i)) (h1 : M r 13 = n) (h2 : M (r + 10) = WC) : Sp l D y_Model_cite prog_14_method_37_code 9 (some .boolean) 4 0 0 [vr r, vl x] sh M sz (fun v' sh' M' sz' => ∃ b : Int, v' = some (vi b) ∧ ((cik WC n x) = 0 → b = civl WC n x) ∧ (-2147483648 ≤ b ∧ b < 2147483648) ∧ sh' = sh ∧ sz' = sz ∧ M' r 0 = cik WC n x ∧ mds sh M' r ∧ fr (fun z => r ≤ z ∧ z ≤ r + 28) M M') := by
  have hr0 := h.2.1
  refine Sp.ofGo (own := "CiteForgeModel") (nm := "cite") (by decide) rfl rfl (Nat.le_of_ble_eq_true rfl) (lv := [(0, vr r), (1, vl x)]) rfl ?_
  intro g X
  refine go_aload_n X d_Model_cite_0 rfl rfl ?_
  refine go_iconst (v := 0) X d_Model_cite_1 ?_
  refine go_put (x := 0) (v := vi 0) X f_Model_95 h.1 rfl d_Model_cite_2 rfl rfl rfl ?_
  generalize hM2 : m_s M r 0 0 = M1
  have e3 : M1 r 13 = n := by rw [← hM2]; exact (m_s_n (fun q => absurd q.2 (by decide))).trans h1
  have e4 : M1 r 0 = 0 := by rw [← hM2, m_s_s]
  have fr5 : fr (fun z => r ≤ z ∧ z ≤ r + 28) M M1 := fun z hz => by
    have hz1 : ¬ (r ≤ z ∧ z ≤ r + 28) := hz
    rw [← hM2]; exact (m_s_a (by omega))
  have rw6 : M1 (r + 10) = WC := by rw [← hM2]; exact (m_s_a (of_ne0 (by decide))).trans h2
  have md7 : mds sh M1 r := by rw [← hM2]; exact h.put (by decide)
  refine go_lload_n X d_Model_cite_5 rfl rfl ?_
  refine go_cSf (st2 := [vl (mwof x)]) (r := []) X k_Model_224 (m_wordOf l D (by omega)) rfl rfl (by omega) (Nat.le_of_ble_eq_true rfl) d_Model_cite_6 (by omega) (by omega) rfl ?_
  have hmw := mwof_rng x
  refine go_lstore_n (lv' := [(3, vl (mwof x)), (0, vr r), (1, vl x)]) X d_Model_cite_9 rfl (by decide) rfl ?_
  refine go_lload_n X d_Model_cite_10 rfl rfl ?_
  refine go_lconst (x := 0) X d_Model_cite_11 (by decide) ?_
  refine go_lcmp X (by omega) (by omega) d_Model_cite_12 ?_
  have hc9 := s_cmp_rng (mwof x) 0
  refine go_if_eq (tgt := 20) X d_Model_cite_13 rfl (by omega) (fun hq8 => ?_) (fun hq8 => ?_)
  · skip
    refine go_iconst (v := 0) X d_Model_cite_20 ?_
    refine go_istore (lv' := [(5, vi 0), (3, vl (mwof x)), (0, vr r), (1, vl x)]) X d_Model_cite_21 (by decide) rfl ?_
    refine go_iconst (v := 1) X d_Model_cite_23 ?_
    refine go_istore (lv' := [(6, vi 1), (5, vi 0), (3, vl (mwof x)), (0, vr r), (1, vl x)]) X d_Model_cite_24 (by decide) rfl ?_
    refine go_iconst (v := 0) X d_Model_cite_26 ?_
    refine go_istore (lv' := [(7, vi 0), (6, vi 1), (5, vi 0), (3, vl (mwof x)), (0, vr r), (1, vl x)]) X d_Model_cite_27 (by decide) rfl ?_
    have hg0 : decide (mwof x ≠ 0) = false := decide_eq_false (fun q => q (s_cmp0 hq8))
    have lp1 : ∀ (fuel : Nat) (i : Int) (gb : Bool) (mo : Bool), (0 ≤ i) → (i ≤ 8) → (it (gsw (mwof x)) ((8 : Int) - i).toNat i (gb, mo) = it (gsw (mwof x)) ((8 : Int) - 0).toNat 0 (decide (mwof x ≠ 0), true)) → ((8 : Int) - i).toNat < fuel → Go g 0 0 sh M1 sz 29 [(0, vr r), (3, vl (mwof x)), (5, vi (s_b gb)), (6, vi (s_b mo)), (7, vi i)] [] := by
      intro fuel
      induction fuel with
      | zero => intro i gb mo hi hi2 hp hm_lp1; exact absurd hm_lp1 (Nat.not_lt_zero _)
      | succ fuel ih_lp1 =>
        intro i gb mo hi hi2 hp hm_lp1
        refine go_iload X d_Model_cite_29 rfl ?_
        refine go_bipush (v := 8) X d_Model_cite_31 (by decide) ?_
        refine go_icmp_ge (tgt := 98) X d_Model_cite_33 rfl (by omega) (by omega) (fun hq9 => ?_) (fun hq9 => ?_)
        · skip
          have hgd : gb = gdd (mwof x) := by unfold gdd; rw [it_fin (gsw (mwof x)) hp (by omega)]
          refine go_iload X d_Model_cite_98 rfl ?_
          refine go_ifb_ne (tgt := 117) X d_Model_cite_100 rfl (fun hq10 => ?_) (fun hq10 => ?_)
          · skip
            refine go_iconst (v := 0) X d_Model_cite_117 ?_
            refine go_istore (lv' := [(7, vi 0), (0, vr r), (3, vl (mwof x)), (5, vi (s_b gb)), (6, vi (s_b mo))]) X d_Model_cite_118 (by decide) rfl ?_
            have hwn : wof x ≠ 0 := (gdd_iff x).mp (hgd.symm.trans hq10)
            have hwm : wof x = mwof x := by rw [wof_mw, if_pos ((gdd_iff x).mpr hwn)]
            have lp2_ : ∀ (fuel : Nat) (j : Int), (0 ≤ j) → (j ≤ n) → (fi WC (mwof x) (n - j).toNat j = fx WC n (mwof x)) → (n - j).toNat < fuel → Go g 0 0 sh M1 sz 120 [(0, vr r), (3, vl (mwof x)), (7, vi j)] [] := by
              intro fuel
              induction fuel with
              | zero => intro j hj hj2 hp2 hm_lp2_; exact absurd hm_lp2_ (Nat.not_lt_zero _)
              | succ fuel ih_lp2_ =>
                intro j hj hj2 hp2 hm_lp2_
                refine go_iload X d_Model_cite_120 rfl ?_
                refine go_aload_n X d_Model_cite_122 rfl rfl ?_
                refine go_get (v := vi n) X f_Model_228 h.1 rfl d_Model_cite_123 (congrArg (s_v .int) e3) ?_
                refine go_icmp_ge (tgt := 149) X d_Model_cite_126 rfl (by omega) (by omega) (fun hq11 => ?_) (fun hq11 => ?_)
                · skip
                  refine go_aload_n X d_Model_cite_149 rfl rfl ?_
                  refine go_get (v := vi n) X f_Model_228 h.1 rfl d_Model_cite_150 (congrArg (s_v .int) e3) ?_
                  refine go_bipush (v := 10) X d_Model_cite_153 (by decide) ?_
                  refine go_icmp_ne (tgt := 172) X d_Model_cite_155 rfl (by omega) (by omega) (fun hq12 => ?_) (fun hq12 => ?_)
                  · skip
                    refine go_aload_n X d_Model_cite_172 rfl rfl ?_
                    have sg13 : sh (r + 10) = some (.inr (.long, 10)) := (md7.2.2 9 _ rfl).1
                    have e14 : M1 r 14 = r + 10 := (md7.2.2 9 _ rfl).2
                    refine go_get (v := vr (r + 10)) X f_Model_38 h.1 rfl d_Model_cite_173 (s_varr e14 (by omega)) ?_
                    refine go_aload_n X d_Model_cite_176 rfl rfl ?_
                    refine go_get (v := vi n) X f_Model_228 h.1 rfl d_Model_cite_177 (congrArg (s_v .int) e3) ?_
                    refine go_lload_n X d_Model_cite_180 rfl rfl ?_
                    refine go_last X sg13 (by omega) (by omega) d_Model_cite_181 ?_
                    generalize hM16 : m_s M1 (r + 10) n (mwof x) = M15
                    have e17 : M15 r 13 = n := by rw [← hM16]; exact (m_s_n (fun q => absurd q.1 (of_ne1 (by decide)))).trans e3
                    have e18 : M15 r 0 = 0 := by rw [← hM16]; exact (m_s_n (fun q => absurd q.1 (of_ne1 (by decide)))).trans e4
                    have e19 : M15 r 14 = r + 10 := by rw [← hM16]; exact (m_s_n (fun q => absurd q.1 (of_ne1 (by decide)))).trans e14
                    have e20 : M15 (r + 10) n = mwof x := by rw [← hM16, m_s_s]
                    have fr21 : fr (fun z => r ≤ z ∧ z ≤ r + 28) M M15 := fun z hz => by
                      have hz1 : ¬ (r ≤ z ∧ z ≤ r + 28) := hz
                      rw [← hM16]; exact (m_s_a (by omega)).trans (fr5 z hz)
                    have rw22 : M15 (r + 10) = rset WC n (mwof x) := by rw [← hM16]; exact row_set rw6
                    clear e14 e3 e4 fr5 rw6
                    have md23 : mds sh M15 r := by rw [← hM16]; exact md7.off (m_s_a (by omega))
                    refine go_aload_n X d_Model_cite_182 rfl rfl ?_
                    refine go_dup X d_Model_cite_183 rfl ?_
                    refine go_get (v := vi n) X f_Model_228 h.1 rfl d_Model_cite_184 (congrArg (s_v .int) e17) ?_
                    refine go_iconst (v := 1) X d_Model_cite_187 ?_
                    refine go_iadd X d_Model_cite_188 ?_
                    refine go_put (x := (n + 1)) (v := vi (n + 1)) X f_Model_228 h.1 rfl d_Model_cite_189 rfl rfl rfl ?_
                    generalize hM25 : m_s M15 r 13 (n + 1) = M24
                    have e26 : M24 r 0 = 0 := by rw [← hM25]; exact (m_s_n (fun q => absurd q.2 (by decide))).trans e18
                    have e27 : M24 r 14 = r + 10 := by rw [← hM25]; exact (m_s_n (fun q => absurd q.2 (by decide))).trans e19
                    have e28 : M24 r 13 = n + 1 := by rw [← hM25, m_s_s]
                    have fr29 : fr (fun z => r ≤ z ∧ z ≤ r + 28) M M24 := fun z hz => by
                      have hz1 : ¬ (r ≤ z ∧ z ≤ r + 28) := hz
                      rw [← hM25]; exact (m_s_a (by omega)).trans (fr21 z hz)
                    have rw30 : M24 (r + 10) = rset WC n (mwof x) := by rw [← hM25]; exact (m_s_a (of_ne0 (by decide))).trans rw22
                    clear e17 e18 e19 fr21 rw22
                    have md31 : mds sh M24 r := by rw [← hM25]; exact md23.put (by decide)
                    refine go_iconst (v := 1) X d_Model_cite_192 ?_
                    refine go_iret X d_Model_cite_193 rfl ?_ (by omega) (by omega) ?_
                    · rfl
                    rw [fi_end (by omega)] at hp2
                    have hfx : ¬ 0 ≤ fx WC n (wof x) := by rw [hwm, ← hp2]; decide
                    have hcode : cik WC n x = 0 := ((if_neg hwn).trans (if_neg hfx)).trans (if_neg (by omega))
                    exact ⟨1, rfl, fun _ => (if_neg hfx : civl WC n x = 1).symm, by decide, rfl, rfl, e26.trans hcode.symm, md31, fr29⟩
                  · skip
                    refine go_aload_n X d_Model_cite_158 rfl rfl ?_
                    refine go_iconst (v := 2) X d_Model_cite_159 ?_
                    refine go_cVf (st2 := [vi 0]) (r := []) X k_Model_128 (m_fail l D md7 (c := 2)) h.1 rfl rfl (by omega) (Nat.le_of_ble_eq_true rfl) d_Model_cite_160 (by omega) (by omega) rfl ?_
                    generalize hM33 : m_s M1 r 0 2 = M32
                    have e34 : M32 r 13 = n := by rw [← hM33]; exact (m_s_n (fun q => absurd q.2 (by decide))).trans e3
                    have e35 : M32 r 0 = 2 := by rw [← hM33, m_s_s]
                    have fr36 : fr (fun z => r ≤ z ∧ z ≤ r + 28) M M32 := fun z hz => by
                      have hz1 : ¬ (r ≤ z ∧ z ≤ r + 28) := hz
                      rw [← hM33]; exact (m_s_a (by omega)).trans (fr5 z hz)
                    have rw37 : M32 (r + 10) = WC := by rw [← hM33]; exact (m_s_a (of_ne0 (by decide))).trans rw6
                    clear e3 e4 fr5 rw6
                    have md38 : mds sh M32 r := by rw [← hM33]; exact md7.put (by decide)
                    refine go_if_le (tgt := 170) X d_Model_cite_163 rfl (by omega) (fun _ => ?_) (fun h9 => absurd h9 (by decide))
                    refine go_iconst (v := 0) X d_Model_cite_170 ?_
                    refine go_iret X d_Model_cite_171 rfl ?_ (by omega) (by omega) ?_
                    · rfl
                    rw [fi_end (by omega)] at hp2
                    have hfx : ¬ 0 ≤ fx WC n (wof x) := by rw [hwm, ← hp2]; decide
                    have hcode : cik WC n x = 2 := ((if_neg hwn).trans (if_neg hfx)).trans (if_pos (by omega))
                    exact ⟨0, rfl, fun q => absurd (hcode.symm.trans q) (by decide), by decide, rfl, rfl, e35.trans hcode.symm, md38, fr36⟩
                · skip
                  refine go_aload_n X d_Model_cite_129 rfl rfl ?_
                  have sg39 : sh (r + 10) = some (.inr (.long, 10)) := (md7.2.2 9 _ rfl).1
                  have e40 : M1 r 14 = r + 10 := (md7.2.2 9 _ rfl).2
                  refine go_get (v := vr (r + 10)) X f_Model_38 h.1 rfl d_Model_cite_130 (s_varr e40 (by omega)) ?_
                  refine go_iload X d_Model_cite_133 rfl ?_
                  refine go_lald X sg39 (by omega) (by omega) d_Model_cite_135 ?_
                  refine go_top (v' := vl (WC j)) X (by rw [rw6]) ?_
                  have hw1 := hWr j
                  refine go_lload_n X d_Model_cite_136 rfl rfl ?_
                  refine go_lcmp X (by omega) (by omega) d_Model_cite_137 ?_
                  have hc8 := s_cmp_rng (WC j) (mwof x)
                  refine go_if_ne (tgt := 143) X d_Model_cite_138 rfl (by omega) (fun hq41 => ?_) (fun hq41 => ?_)
                  · skip
                    have hn2 : fi WC (mwof x) (n - (j + 1)).toNat (j + 1) = fx WC n (mwof x) := (fi_nxt (by omega) (fun q => hq41 (by rw [q]; unfold s_cmp; rw [if_neg (by omega), if_pos rfl]))).symm.trans hp2
                    refine go_iinc (v := 1) (x := j) (lv' := [(7, vi (j + 1)), (0, vr r), (3, vl (mwof x))]) X d_Model_cite_143 rfl (by decide) rfl ?_
                    refine go_goto (tgt := 120) X d_Model_cite_146 rfl ?_
                    refine go_lv (lv' := [(0, vr r), (3, vl (mwof x)), (7, vi (j + 1))]) X [1, 2, 0] rfl ?_
                    exact ih_lp2_ (j + 1) (by omega) (by omega) hn2 (by omega)
                  · skip
                    refine go_iconst (v := 0) X d_Model_cite_141 ?_
                    refine go_iret X d_Model_cite_142 rfl ?_ (by omega) (by omega) ?_
                    · rfl
                    rw [fi_hit (by omega) (s_cmp0 hq41)] at hp2
                    have hfx : 0 ≤ fx WC n (wof x) := by rw [hwm, ← hp2]; omega
                    have hcode : cik WC n x = 0 := (if_neg hwn).trans (if_pos hfx)
                    exact ⟨0, rfl, fun _ => (if_pos hfx : civl WC n x = 0).symm, by decide, rfl, rfl, e4.trans hcode.symm, md7, fr5⟩
            refine go_lv (lv' := [(0, vr r), (3, vl (mwof x)), (7, vi 0)]) X [1, 2, 0] rfl ?_
            exact lp2_ _ 0 (by omega) (by omega) rfl (Nat.lt_succ_self _)
          · skip
            refine go_aload_n X d_Model_cite_103 rfl rfl ?_
            refine go_iconst (v := 1) X d_Model_cite_104 ?_
            refine go_cVf (st2 := [vi 0]) (r := []) X k_Model_128 (m_fail l D md7 (c := 1)) h.1 rfl rfl (by omega) (Nat.le_of_ble_eq_true rfl) d_Model_cite_105 (by omega) (by omega) rfl ?_
            generalize hM43 : m_s M1 r 0 1 = M42
            have e44 : M42 r 13 = n := by rw [← hM43]; exact (m_s_n (fun q => absurd q.2 (by decide))).trans e3
            have e45 : M42 r 0 = 1 := by rw [← hM43, m_s_s]
            have fr46 : fr (fun z => r ≤ z ∧ z ≤ r + 28) M M42 := fun z hz => by
              have hz1 : ¬ (r ≤ z ∧ z ≤ r + 28) := hz
              rw [← hM43]; exact (m_s_a (by omega)).trans (fr5 z hz)
            have rw47 : M42 (r + 10) = WC := by rw [← hM43]; exact (m_s_a (of_ne0 (by decide))).trans rw6
            clear e3 e4 fr5 rw6
            have md48 : mds sh M42 r := by rw [← hM43]; exact md7.put (by decide)
            refine go_if_le (tgt := 115) X d_Model_cite_108 rfl (by omega) (fun _ => ?_) (fun h9 => absurd h9 (by decide))
            refine go_iconst (v := 0) X d_Model_cite_115 ?_
            refine go_iret X d_Model_cite_116 rfl ?_ (by omega) (by omega) ?_
            · rfl
            have hz : wof x = 0 := Classical.byContradiction (fun q => by have g := (gdd_iff x).mpr q; rw [← hgd, hq10] at g; exact absurd g (by decide))
            have hcode : cik WC n x = 1 := if_pos hz
            exact ⟨0, rfl, fun q => absurd (hcode.symm.trans q) (by decide), by decide, rfl, rfl, e45.trans hcode.symm, md48, fr46⟩
        · skip
          refine go_iload X d_Model_cite_36 rfl ?_
          refine go_ifb_eq (tgt := 98) X d_Model_cite_38 rfl (fun hq49 => ?_) (fun hq49 => ?_)
          · skip
            have hgd : gb = gdd (mwof x) := by unfold gdd; rw [it_stay (gsw (mwof x)) hp (fun z => if_neg (by show ¬ mo = true; rw [hq49]; decide))]
            refine go_iload X d_Model_cite_98 rfl ?_
            refine go_ifb_ne (tgt := 117) X d_Model_cite_100 rfl (fun hq50 => ?_) (fun hq50 => ?_)
            · skip
              refine go_iconst (v := 0) X d_Model_cite_117 ?_
              refine go_istore (lv' := [(7, vi 0), (0, vr r), (3, vl (mwof x)), (5, vi (s_b gb)), (6, vi (s_b mo))]) X d_Model_cite_118 (by decide) rfl ?_
              have hwn : wof x ≠ 0 := (gdd_iff x).mp (hgd.symm.trans hq50)
              have hwm : wof x = mwof x := by rw [wof_mw, if_pos ((gdd_iff x).mpr hwn)]
              have lp2_ : ∀ (fuel : Nat) (j : Int), (0 ≤ j) → (j ≤ n) → (fi WC (mwof x) (n - j).toNat j = fx WC n (mwof x)) → (n - j).toNat < fuel → Go g 0 0 sh M1 sz 120 [(0, vr r), (3, vl (mwof x)), (7, vi j)] [] := by
                intro fuel
                induction fuel with
                | zero => intro j hj hj2 hp2 hm_lp2_; exact absurd hm_lp2_ (Nat.not_lt_zero _)
                | succ fuel ih_lp2_ =>
                  intro j hj hj2 hp2 hm_lp2_
                  refine go_iload X d_Model_cite_120 rfl ?_
                  refine go_aload_n X d_Model_cite_122 rfl rfl ?_
                  refine go_get (v := vi n) X f_Model_228 h.1 rfl d_Model_cite_123 (congrArg (s_v .int) e3) ?_
                  refine go_icmp_ge (tgt := 149) X d_Model_cite_126 rfl (by omega) (by omega) (fun hq51 => ?_) (fun hq51 => ?_)
                  · skip
                    refine go_aload_n X d_Model_cite_149 rfl rfl ?_
                    refine go_get (v := vi n) X f_Model_228 h.1 rfl d_Model_cite_150 (congrArg (s_v .int) e3) ?_
                    refine go_bipush (v := 10) X d_Model_cite_153 (by decide) ?_
                    refine go_icmp_ne (tgt := 172) X d_Model_cite_155 rfl (by omega) (by omega) (fun hq52 => ?_) (fun hq52 => ?_)
                    · skip
                      refine go_aload_n X d_Model_cite_172 rfl rfl ?_
                      have sg53 : sh (r + 10) = some (.inr (.long, 10)) := (md7.2.2 9 _ rfl).1
                      have e54 : M1 r 14 = r + 10 := (md7.2.2 9 _ rfl).2
                      refine go_get (v := vr (r + 10)) X f_Model_38 h.1 rfl d_Model_cite_173 (s_varr e54 (by omega)) ?_
                      refine go_aload_n X d_Model_cite_176 rfl rfl ?_
                      refine go_get (v := vi n) X f_Model_228 h.1 rfl d_Model_cite_177 (congrArg (s_v .int) e3) ?_
                      refine go_lload_n X d_Model_cite_180 rfl rfl ?_
                      refine go_last X sg53 (by omega) (by omega) d_Model_cite_181 ?_
                      generalize hM56 : m_s M1 (r + 10) n (mwof x) = M55
                      have e57 : M55 r 13 = n := by rw [← hM56]; exact (m_s_n (fun q => absurd q.1 (of_ne1 (by decide)))).trans e3
                      have e58 : M55 r 0 = 0 := by rw [← hM56]; exact (m_s_n (fun q => absurd q.1 (of_ne1 (by decide)))).trans e4
                      have e59 : M55 r 14 = r + 10 := by rw [← hM56]; exact (m_s_n (fun q => absurd q.1 (of_ne1 (by decide)))).trans e54
                      have e60 : M55 (r + 10) n = mwof x := by rw [← hM56, m_s_s]
                      have fr61 : fr (fun z => r ≤ z ∧ z ≤ r + 28) M M55 := fun z hz => by
                        have hz1 : ¬ (r ≤ z ∧ z ≤ r + 28) := hz
                        rw [← hM56]; exact (m_s_a (by omega)).trans (fr5 z hz)
                      have rw62 : M55 (r + 10) = rset WC n (mwof x) := by rw [← hM56]; exact row_set rw6
                      clear e3 e4 e54 fr5 rw6
                      have md63 : mds sh M55 r := by rw [← hM56]; exact md7.off (m_s_a (by omega))
                      refine go_aload_n X d_Model_cite_182 rfl rfl ?_
                      refine go_dup X d_Model_cite_183 rfl ?_
                      refine go_get (v := vi n) X f_Model_228 h.1 rfl d_Model_cite_184 (congrArg (s_v .int) e57) ?_
                      refine go_iconst (v := 1) X d_Model_cite_187 ?_
                      refine go_iadd X d_Model_cite_188 ?_
                      refine go_put (x := (n + 1)) (v := vi (n + 1)) X f_Model_228 h.1 rfl d_Model_cite_189 rfl rfl rfl ?_
                      generalize hM65 : m_s M55 r 13 (n + 1) = M64
                      have e66 : M64 r 0 = 0 := by rw [← hM65]; exact (m_s_n (fun q => absurd q.2 (by decide))).trans e58
                      have e67 : M64 r 14 = r + 10 := by rw [← hM65]; exact (m_s_n (fun q => absurd q.2 (by decide))).trans e59
                      have e68 : M64 r 13 = n + 1 := by rw [← hM65, m_s_s]
                      have fr69 : fr (fun z => r ≤ z ∧ z ≤ r + 28) M M64 := fun z hz => by
                        have hz1 : ¬ (r ≤ z ∧ z ≤ r + 28) := hz
                        rw [← hM65]; exact (m_s_a (by omega)).trans (fr61 z hz)
                      have rw70 : M64 (r + 10) = rset WC n (mwof x) := by rw [← hM65]; exact (m_s_a (of_ne0 (by decide))).trans rw62
                      clear e57 e58 e59 fr61 rw62
                      have md71 : mds sh M64 r := by rw [← hM65]; exact md63.put (by decide)
                      refine go_iconst (v := 1) X d_Model_cite_192 ?_
                      refine go_iret X d_Model_cite_193 rfl ?_ (by omega) (by omega) ?_
                      · rfl
                      rw [fi_end (by omega)] at hp2
                      have hfx : ¬ 0 ≤ fx WC n (wof x) := by rw [hwm, ← hp2]; decide
                      have hcode : cik WC n x = 0 := ((if_neg hwn).trans (if_neg hfx)).trans (if_neg (by omega))
                      exact ⟨1, rfl, fun _ => (if_neg hfx : civl WC n x = 1).symm, by decide, rfl, rfl, e66.trans hcode.symm, md71, fr69⟩
                    · skip
                      refine go_aload_n X d_Model_cite_158 rfl rfl ?_
                      refine go_iconst (v := 2) X d_Model_cite_159 ?_
                      refine go_cVf (st2 := [vi 0]) (r := []) X k_Model_128 (m_fail l D md7 (c := 2)) h.1 rfl rfl (by omega) (Nat.le_of_ble_eq_true rfl) d_Model_cite_160 (by omega) (by omega) rfl ?_
                      generalize hM73 : m_s M1 r 0 2 = M72
                      have e74 : M72 r 13 = n := by rw [← hM73]; exact (m_s_n (fun q => absurd q.2 (by decide))).trans e3
                      have e75 : M72 r 0 = 2 := by rw [← hM73, m_s_s]
                      have fr76 : fr (fun z => r ≤ z ∧ z ≤ r + 28) M M72 := fun z hz => by
                        have hz1 : ¬ (r ≤ z ∧ z ≤ r + 28) := hz
                        rw [← hM73]; exact (m_s_a (by omega)).trans (fr5 z hz)
                      have rw77 : M72 (r + 10) = WC := by rw [← hM73]; exact (m_s_a (of_ne0 (by decide))).trans rw6
                      clear e3 e4 fr5 rw6
                      have md78 : mds sh M72 r := by rw [← hM73]; exact md7.put (by decide)
                      refine go_if_le (tgt := 170) X d_Model_cite_163 rfl (by omega) (fun _ => ?_) (fun h9 => absurd h9 (by decide))
                      refine go_iconst (v := 0) X d_Model_cite_170 ?_
                      refine go_iret X d_Model_cite_171 rfl ?_ (by omega) (by omega) ?_
                      · rfl
                      rw [fi_end (by omega)] at hp2
                      have hfx : ¬ 0 ≤ fx WC n (wof x) := by rw [hwm, ← hp2]; decide
                      have hcode : cik WC n x = 2 := ((if_neg hwn).trans (if_neg hfx)).trans (if_pos (by omega))
                      exact ⟨0, rfl, fun q => absurd (hcode.symm.trans q) (by decide), by decide, rfl, rfl, e75.trans hcode.symm, md78, fr76⟩
                  · skip
                    refine go_aload_n X d_Model_cite_129 rfl rfl ?_
                    have sg79 : sh (r + 10) = some (.inr (.long, 10)) := (md7.2.2 9 _ rfl).1
                    have e80 : M1 r 14 = r + 10 := (md7.2.2 9 _ rfl).2
                    refine go_get (v := vr (r + 10)) X f_Model_38 h.1 rfl d_Model_cite_130 (s_varr e80 (by omega)) ?_
                    refine go_iload X d_Model_cite_133 rfl ?_
                    refine go_lald X sg79 (by omega) (by omega) d_Model_cite_135 ?_
                    refine go_top (v' := vl (WC j)) X (by rw [rw6]) ?_
                    have hw1 := hWr j
                    refine go_lload_n X d_Model_cite_136 rfl rfl ?_
                    refine go_lcmp X (by omega) (by omega) d_Model_cite_137 ?_
                    have hc8 := s_cmp_rng (WC j) (mwof x)
                    refine go_if_ne (tgt := 143) X d_Model_cite_138 rfl (by omega) (fun hq81 => ?_) (fun hq81 => ?_)
                    · skip
                      have hn2 : fi WC (mwof x) (n - (j + 1)).toNat (j + 1) = fx WC n (mwof x) := (fi_nxt (by omega) (fun q => hq81 (by rw [q]; unfold s_cmp; rw [if_neg (by omega), if_pos rfl]))).symm.trans hp2
                      refine go_iinc (v := 1) (x := j) (lv' := [(7, vi (j + 1)), (0, vr r), (3, vl (mwof x))]) X d_Model_cite_143 rfl (by decide) rfl ?_
                      refine go_goto (tgt := 120) X d_Model_cite_146 rfl ?_
                      refine go_lv (lv' := [(0, vr r), (3, vl (mwof x)), (7, vi (j + 1))]) X [1, 2, 0] rfl ?_
                      exact ih_lp2_ (j + 1) (by omega) (by omega) hn2 (by omega)
                    · skip
                      refine go_iconst (v := 0) X d_Model_cite_141 ?_
                      refine go_iret X d_Model_cite_142 rfl ?_ (by omega) (by omega) ?_
                      · rfl
                      rw [fi_hit (by omega) (s_cmp0 hq81)] at hp2
                      have hfx : 0 ≤ fx WC n (wof x) := by rw [hwm, ← hp2]; omega
                      have hcode : cik WC n x = 0 := (if_neg hwn).trans (if_pos hfx)
                      exact ⟨0, rfl, fun _ => (if_pos hfx : civl WC n x = 0).symm, by decide, rfl, rfl, e4.trans hcode.symm, md7, fr5⟩
              refine go_lv (lv' := [(0, vr r), (3, vl (mwof x)), (7, vi 0)]) X [1, 2, 0] rfl ?_
              exact lp2_ _ 0 (by omega) (by omega) rfl (Nat.lt_succ_self _)
            · skip
              refine go_aload_n X d_Model_cite_103 rfl rfl ?_
              refine go_iconst (v := 1) X d_Model_cite_104 ?_
              refine go_cVf (st2 := [vi 0]) (r := []) X k_Model_128 (m_fail l D md7 (c := 1)) h.1 rfl rfl (by omega) (Nat.le_of_ble_eq_true rfl) d_Model_cite_105 (by omega) (by omega) rfl ?_
              generalize hM83 : m_s M1 r 0 1 = M82
              have e84 : M82 r 13 = n := by rw [← hM83]; exact (m_s_n (fun q => absurd q.2 (by decide))).trans e3
              have e85 : M82 r 0 = 1 := by rw [← hM83, m_s_s]
              have fr86 : fr (fun z => r ≤ z ∧ z ≤ r + 28) M M82 := fun z hz => by
                have hz1 : ¬ (r ≤ z ∧ z ≤ r + 28) := hz
                rw [← hM83]; exact (m_s_a (by omega)).trans (fr5 z hz)
              have rw87 : M82 (r + 10) = WC := by rw [← hM83]; exact (m_s_a (of_ne0 (by decide))).trans rw6
              clear e3 e4 fr5 rw6
              have md88 : mds sh M82 r := by rw [← hM83]; exact md7.put (by decide)
              refine go_if_le (tgt := 115) X d_Model_cite_108 rfl (by omega) (fun _ => ?_) (fun h9 => absurd h9 (by decide))
              refine go_iconst (v := 0) X d_Model_cite_115 ?_
              refine go_iret X d_Model_cite_116 rfl ?_ (by omega) (by omega) ?_
              · rfl
              have hz : wof x = 0 := Classical.byContradiction (fun q => by have g := (gdd_iff x).mpr q; rw [← hgd, hq50] at g; exact absurd g (by decide))
              have hcode : cik WC n x = 1 := if_pos hz
              exact ⟨0, rfl, fun q => absurd (hcode.symm.trans q) (by decide), by decide, rfl, rfl, e85.trans hcode.symm, md88, fr86⟩
          · skip
            refine go_lload_n X d_Model_cite_41 rfl rfl ?_
            refine go_bipush (v := 8) X d_Model_cite_42 (by decide) ?_
            refine go_iload X d_Model_cite_44 rfl ?_
            refine go_imul X d_Model_cite_46 ?_
            refine go_lshr (z := s_sar (mwof x) (8 * i)) X d_Model_cite_47 (l_sar _ _) ?_
            refine go_ldc2 (x := 255) X w_kl_Model_114 (by decide) d_Model_cite_48 ?_
            refine go_land (z := by_ (mwof x) i) X d_Model_cite_51 (l_sarby (by omega) (by omega)) ?_
            refine go_l2i X d_Model_cite_52 ?_
            have hb0 := by_r (mwof x) i
            refine go_istore (lv' := [(8, vi (by_ (mwof x) i)), (0, vr r), (3, vl (mwof x)), (5, vi (s_b gb)), (6, vi (s_b mo)), (7, vi i)]) X d_Model_cite_53 (by decide) rfl ?_
            refine go_iload X d_Model_cite_55 rfl ?_
            refine go_if_eq (tgt := 64) X d_Model_cite_57 rfl (by omega) (fun hq89 => ?_) (fun hq89 => ?_)
            · skip
              refine go_iconst (v := 0) X d_Model_cite_64 ?_
              refine go_istore (lv' := [(6, vi 0), (8, vi (by_ (mwof x) i)), (0, vr r), (3, vl (mwof x)), (5, vi (s_b gb)), (7, vi i)]) X d_Model_cite_65 (by decide) rfl ?_
              refine go_iload X d_Model_cite_67 rfl ?_
              refine go_ifb_eq (tgt := 89) X d_Model_cite_69 rfl (fun hq90 => ?_) (fun hq90 => ?_)
              · skip
                refine go_iconst (v := 0) X d_Model_cite_89 ?_
                refine go_istore (lv' := [(5, vi 0), (6, vi 0), (8, vi (by_ (mwof x) i)), (0, vr r), (3, vl (mwof x)), (7, vi i)]) X d_Model_cite_90 (by decide) rfl ?_
                have hc0 : decide (by_ (mwof x) i ≠ 0) = false := decide_eq_false (fun q => q hq89)
                have hn := it_nxt (gsw (mwof x)) (s' := (false, false)) hp (by omega) (by simp [gsw, hq49, hc0, hq90])
                refine go_iinc (v := 1) (x := i) (lv' := [(7, vi (i + 1)), (5, vi 0), (6, vi 0), (8, vi (by_ (mwof x) i)), (0, vr r), (3, vl (mwof x))]) X d_Model_cite_92 rfl (by decide) rfl ?_
                refine go_goto (tgt := 29) X d_Model_cite_95 rfl ?_
                refine go_lv (lv' := [(0, vr r), (3, vl (mwof x)), (5, vi 0), (6, vi 0), (7, vi (i + 1))]) X [4, 5, 1, 2, 0] rfl ?_
                exact ih_lp1 (i + 1) false false (by omega) (by omega) hn (by omega)
              · skip
                refine go_iload X d_Model_cite_72 rfl ?_
                refine go_if_eq (tgt := 85) X d_Model_cite_74 rfl (by omega) (fun _ => ?_) (fun h9 => absurd h9 (by decide))
                refine go_iconst (v := 1) X d_Model_cite_85 ?_
                refine go_goto (tgt := 90) X d_Model_cite_86 rfl ?_
                refine go_istore (lv' := [(5, vi 1), (6, vi 0), (8, vi (by_ (mwof x) i)), (0, vr r), (3, vl (mwof x)), (7, vi i)]) X d_Model_cite_90 (by decide) rfl ?_
                have hc0 : decide (by_ (mwof x) i ≠ 0) = false := decide_eq_false (fun q => q hq89)
                have hn := it_nxt (gsw (mwof x)) (s' := (true, false)) hp (by omega) (by simp [gsw, hq49, hc0, hq90])
                refine go_iinc (v := 1) (x := i) (lv' := [(7, vi (i + 1)), (5, vi 1), (6, vi 0), (8, vi (by_ (mwof x) i)), (0, vr r), (3, vl (mwof x))]) X d_Model_cite_92 rfl (by decide) rfl ?_
                refine go_goto (tgt := 29) X d_Model_cite_95 rfl ?_
                refine go_lv (lv' := [(0, vr r), (3, vl (mwof x)), (5, vi 1), (6, vi 0), (7, vi (i + 1))]) X [4, 5, 1, 2, 0] rfl ?_
                exact ih_lp1 (i + 1) true false (by omega) (by omega) hn (by omega)
            · skip
              refine go_iconst (v := 1) X d_Model_cite_60 ?_
              refine go_goto (tgt := 65) X d_Model_cite_61 rfl ?_
              refine go_istore (lv' := [(6, vi 1), (8, vi (by_ (mwof x) i)), (0, vr r), (3, vl (mwof x)), (5, vi (s_b gb)), (7, vi i)]) X d_Model_cite_65 (by decide) rfl ?_
              refine go_iload X d_Model_cite_67 rfl ?_
              refine go_ifb_eq (tgt := 89) X d_Model_cite_69 rfl (fun hq91 => ?_) (fun hq91 => ?_)
              · skip
                refine go_iconst (v := 0) X d_Model_cite_89 ?_
                refine go_istore (lv' := [(5, vi 0), (6, vi 1), (8, vi (by_ (mwof x) i)), (0, vr r), (3, vl (mwof x)), (7, vi i)]) X d_Model_cite_90 (by decide) rfl ?_
                have hc0 : decide (by_ (mwof x) i ≠ 0) = true := decide_eq_true hq89
                have hn := it_nxt (gsw (mwof x)) (s' := (false, true)) hp (by omega) (by simp [gsw, hq49, hc0, hq91])
                refine go_iinc (v := 1) (x := i) (lv' := [(7, vi (i + 1)), (5, vi 0), (6, vi 1), (8, vi (by_ (mwof x) i)), (0, vr r), (3, vl (mwof x))]) X d_Model_cite_92 rfl (by decide) rfl ?_
                refine go_goto (tgt := 29) X d_Model_cite_95 rfl ?_
                refine go_lv (lv' := [(0, vr r), (3, vl (mwof x)), (5, vi 0), (6, vi 1), (7, vi (i + 1))]) X [4, 5, 1, 2, 0] rfl ?_
                exact ih_lp1 (i + 1) false true (by omega) (by omega) hn (by omega)
              · skip
                refine go_iload X d_Model_cite_72 rfl ?_
                refine go_if_eq (tgt := 85) X d_Model_cite_74 rfl (by omega) (fun h9 => absurd h9 (by decide)) (fun _ => ?_)
                refine go_iload X d_Model_cite_77 rfl ?_
                refine go_cSf (st2 := [vi (s_b (p_wc (by_ (mwof x) i)))]) (r := []) X k_Model_156 (m_isWord l D (by omega)) rfl rfl (by omega) (Nat.le_of_ble_eq_true rfl) d_Model_cite_79 (by omega) (by omega) rfl ?_
                refine go_ifb_eq (tgt := 89) X d_Model_cite_82 rfl (fun hq92 => ?_) (fun hq92 => ?_)
                · skip
                  refine go_iconst (v := 0) X d_Model_cite_89 ?_
                  refine go_istore (lv' := [(5, vi 0), (6, vi 1), (8, vi (by_ (mwof x) i)), (0, vr r), (3, vl (mwof x)), (7, vi i)]) X d_Model_cite_90 (by decide) rfl ?_
                  have hc0 : decide (by_ (mwof x) i ≠ 0) = true := decide_eq_true hq89
                  have hn := it_nxt (gsw (mwof x)) (s' := (false, true)) hp (by omega) (by simp [gsw, hq49, hc0, hq91, hq92])
                  refine go_iinc (v := 1) (x := i) (lv' := [(7, vi (i + 1)), (5, vi 0), (6, vi 1), (8, vi (by_ (mwof x) i)), (0, vr r), (3, vl (mwof x))]) X d_Model_cite_92 rfl (by decide) rfl ?_
                  refine go_goto (tgt := 29) X d_Model_cite_95 rfl ?_
                  refine go_lv (lv' := [(0, vr r), (3, vl (mwof x)), (5, vi 0), (6, vi 1), (7, vi (i + 1))]) X [4, 5, 1, 2, 0] rfl ?_
                  exact ih_lp1 (i + 1) false true (by omega) (by omega) hn (by omega)
                · skip
                  refine go_iconst (v := 1) X d_Model_cite_85 ?_
                  refine go_goto (tgt := 90) X d_Model_cite_86 rfl ?_
                  refine go_istore (lv' := [(5, vi 1), (6, vi 1), (8, vi (by_ (mwof x) i)), (0, vr r), (3, vl (mwof x)), (7, vi i)]) X d_Model_cite_90 (by decide) rfl ?_
                  have hc0 : decide (by_ (mwof x) i ≠ 0) = true := decide_eq_true hq89
                  have hn := it_nxt (gsw (mwof x)) (s' := (true, true)) hp (by omega) (by simp [gsw, hq49, hc0, hq91, hq92])
                  refine go_iinc (v := 1) (x := i) (lv' := [(7, vi (i + 1)), (5, vi 1), (6, vi 1), (8, vi (by_ (mwof x) i)), (0, vr r), (3, vl (mwof x))]) X d_Model_cite_92 rfl (by decide) rfl ?_
                  refine go_goto (tgt := 29) X d_Model_cite_95 rfl ?_
                  refine go_lv (lv' := [(0, vr r), (3, vl (mwof x)), (5, vi 1), (6, vi 1), (7, vi (i + 1))]) X [4, 5, 1, 2, 0] rfl ?_
                  exact ih_lp1 (i + 1) true true (by omega) (by omega) hn (by omega)
    refine go_lv (lv' := [(0, vr r), (3, vl (mwof x)), (5, vi 0), (6, vi 1), (7, vi 0)]) X [4, 3, 2, 1, 0] rfl ?_
    exact lp1 _ 0 false true (by omega) (by omega) (by rw [hg0]) (Nat.lt_succ_self _)
  · skip
    refine go_iconst (v := 1) X d_Model_cite_16 ?_
    refine go_goto (tgt := 21) X d_Model_cite_17 rfl ?_
    refine go_istore (lv' := [(5, vi 1), (3, vl (mwof x)), (0, vr r), (1, vl x)]) X d_Model_cite_21 (by decide) rfl ?_
    refine go_iconst (v := 1) X d_Model_cite_23 ?_
    refine go_istore (lv' := [(6, vi 1), (5, vi 1), (3, vl (mwof x)), (0, vr r), (1, vl x)]) X d_Model_cite_24 (by decide) rfl ?_
    refine go_iconst (v := 0) X d_Model_cite_26 ?_
    refine go_istore (lv' := [(7, vi 0), (6, vi 1), (5, vi 1), (3, vl (mwof x)), (0, vr r), (1, vl x)]) X d_Model_cite_27 (by decide) rfl ?_
    have hg0 : decide (mwof x ≠ 0) = true := decide_eq_true (fun q => hq8 (by rw [q]; decide))
    have lp1 : ∀ (fuel : Nat) (i : Int) (gb : Bool) (mo : Bool), (0 ≤ i) → (i ≤ 8) → (it (gsw (mwof x)) ((8 : Int) - i).toNat i (gb, mo) = it (gsw (mwof x)) ((8 : Int) - 0).toNat 0 (decide (mwof x ≠ 0), true)) → ((8 : Int) - i).toNat < fuel → Go g 0 0 sh M1 sz 29 [(0, vr r), (3, vl (mwof x)), (5, vi (s_b gb)), (6, vi (s_b mo)), (7, vi i)] [] := by
      intro fuel
      induction fuel with
      | zero => intro i gb mo hi hi2 hp hm_lp1; exact absurd hm_lp1 (Nat.not_lt_zero _)
      | succ fuel ih_lp1 =>
        intro i gb mo hi hi2 hp hm_lp1
        refine go_iload X d_Model_cite_29 rfl ?_
        refine go_bipush (v := 8) X d_Model_cite_31 (by decide) ?_
        refine go_icmp_ge (tgt := 98) X d_Model_cite_33 rfl (by omega) (by omega) (fun hq93 => ?_) (fun hq93 => ?_)
        · skip
          have hgd : gb = gdd (mwof x) := by unfold gdd; rw [it_fin (gsw (mwof x)) hp (by omega)]
          refine go_iload X d_Model_cite_98 rfl ?_
          refine go_ifb_ne (tgt := 117) X d_Model_cite_100 rfl (fun hq94 => ?_) (fun hq94 => ?_)
          · skip
            refine go_iconst (v := 0) X d_Model_cite_117 ?_
            refine go_istore (lv' := [(7, vi 0), (0, vr r), (3, vl (mwof x)), (5, vi (s_b gb)), (6, vi (s_b mo))]) X d_Model_cite_118 (by decide) rfl ?_
            have hwn : wof x ≠ 0 := (gdd_iff x).mp (hgd.symm.trans hq94)
            have hwm : wof x = mwof x := by rw [wof_mw, if_pos ((gdd_iff x).mpr hwn)]
            have lp2_ : ∀ (fuel : Nat) (j : Int), (0 ≤ j) → (j ≤ n) → (fi WC (mwof x) (n - j).toNat j = fx WC n (mwof x)) → (n - j).toNat < fuel → Go g 0 0 sh M1 sz 120 [(0, vr r), (3, vl (mwof x)), (7, vi j)] [] := by
              intro fuel
              induction fuel with
              | zero => intro j hj hj2 hp2 hm_lp2_; exact absurd hm_lp2_ (Nat.not_lt_zero _)
              | succ fuel ih_lp2_ =>
                intro j hj hj2 hp2 hm_lp2_
                refine go_iload X d_Model_cite_120 rfl ?_
                refine go_aload_n X d_Model_cite_122 rfl rfl ?_
                refine go_get (v := vi n) X f_Model_228 h.1 rfl d_Model_cite_123 (congrArg (s_v .int) e3) ?_
                refine go_icmp_ge (tgt := 149) X d_Model_cite_126 rfl (by omega) (by omega) (fun hq95 => ?_) (fun hq95 => ?_)
                · skip
                  refine go_aload_n X d_Model_cite_149 rfl rfl ?_
                  refine go_get (v := vi n) X f_Model_228 h.1 rfl d_Model_cite_150 (congrArg (s_v .int) e3) ?_
                  refine go_bipush (v := 10) X d_Model_cite_153 (by decide) ?_
                  refine go_icmp_ne (tgt := 172) X d_Model_cite_155 rfl (by omega) (by omega) (fun hq96 => ?_) (fun hq96 => ?_)
                  · skip
                    refine go_aload_n X d_Model_cite_172 rfl rfl ?_
                    have sg97 : sh (r + 10) = some (.inr (.long, 10)) := (md7.2.2 9 _ rfl).1
                    have e98 : M1 r 14 = r + 10 := (md7.2.2 9 _ rfl).2
                    refine go_get (v := vr (r + 10)) X f_Model_38 h.1 rfl d_Model_cite_173 (s_varr e98 (by omega)) ?_
                    refine go_aload_n X d_Model_cite_176 rfl rfl ?_
                    refine go_get (v := vi n) X f_Model_228 h.1 rfl d_Model_cite_177 (congrArg (s_v .int) e3) ?_
                    refine go_lload_n X d_Model_cite_180 rfl rfl ?_
                    refine go_last X sg97 (by omega) (by omega) d_Model_cite_181 ?_
                    generalize hM100 : m_s M1 (r + 10) n (mwof x) = M99
                    have e101 : M99 r 13 = n := by rw [← hM100]; exact (m_s_n (fun q => absurd q.1 (of_ne1 (by decide)))).trans e3
                    have e102 : M99 r 0 = 0 := by rw [← hM100]; exact (m_s_n (fun q => absurd q.1 (of_ne1 (by decide)))).trans e4
                    have e103 : M99 r 14 = r + 10 := by rw [← hM100]; exact (m_s_n (fun q => absurd q.1 (of_ne1 (by decide)))).trans e98
                    have e104 : M99 (r + 10) n = mwof x := by rw [← hM100, m_s_s]
                    have fr105 : fr (fun z => r ≤ z ∧ z ≤ r + 28) M M99 := fun z hz => by
                      have hz1 : ¬ (r ≤ z ∧ z ≤ r + 28) := hz
                      rw [← hM100]; exact (m_s_a (by omega)).trans (fr5 z hz)
                    have rw106 : M99 (r + 10) = rset WC n (mwof x) := by rw [← hM100]; exact row_set rw6
                    clear e3 e4 e98 fr5 rw6
                    have md107 : mds sh M99 r := by rw [← hM100]; exact md7.off (m_s_a (by omega))
                    refine go_aload_n X d_Model_cite_182 rfl rfl ?_
                    refine go_dup X d_Model_cite_183 rfl ?_
                    refine go_get (v := vi n) X f_Model_228 h.1 rfl d_Model_cite_184 (congrArg (s_v .int) e101) ?_
                    refine go_iconst (v := 1) X d_Model_cite_187 ?_
                    refine go_iadd X d_Model_cite_188 ?_
                    refine go_put (x := (n + 1)) (v := vi (n + 1)) X f_Model_228 h.1 rfl d_Model_cite_189 rfl rfl rfl ?_
                    generalize hM109 : m_s M99 r 13 (n + 1) = M108
                    have e110 : M108 r 0 = 0 := by rw [← hM109]; exact (m_s_n (fun q => absurd q.2 (by decide))).trans e102
                    have e111 : M108 r 14 = r + 10 := by rw [← hM109]; exact (m_s_n (fun q => absurd q.2 (by decide))).trans e103
                    have e112 : M108 r 13 = n + 1 := by rw [← hM109, m_s_s]
                    have fr113 : fr (fun z => r ≤ z ∧ z ≤ r + 28) M M108 := fun z hz => by
                      have hz1 : ¬ (r ≤ z ∧ z ≤ r + 28) := hz
                      rw [← hM109]; exact (m_s_a (by omega)).trans (fr105 z hz)
                    have rw114 : M108 (r + 10) = rset WC n (mwof x) := by rw [← hM109]; exact (m_s_a (of_ne0 (by decide))).trans rw106
                    clear e101 e102 e103 fr105 rw106
                    have md115 : mds sh M108 r := by rw [← hM109]; exact md107.put (by decide)
                    refine go_iconst (v := 1) X d_Model_cite_192 ?_
                    refine go_iret X d_Model_cite_193 rfl ?_ (by omega) (by omega) ?_
                    · rfl
                    rw [fi_end (by omega)] at hp2
                    have hfx : ¬ 0 ≤ fx WC n (wof x) := by rw [hwm, ← hp2]; decide
                    have hcode : cik WC n x = 0 := ((if_neg hwn).trans (if_neg hfx)).trans (if_neg (by omega))
                    exact ⟨1, rfl, fun _ => (if_neg hfx : civl WC n x = 1).symm, by decide, rfl, rfl, e110.trans hcode.symm, md115, fr113⟩
                  · skip
                    refine go_aload_n X d_Model_cite_158 rfl rfl ?_
                    refine go_iconst (v := 2) X d_Model_cite_159 ?_
                    refine go_cVf (st2 := [vi 0]) (r := []) X k_Model_128 (m_fail l D md7 (c := 2)) h.1 rfl rfl (by omega) (Nat.le_of_ble_eq_true rfl) d_Model_cite_160 (by omega) (by omega) rfl ?_
                    generalize hM117 : m_s M1 r 0 2 = M116
                    have e118 : M116 r 13 = n := by rw [← hM117]; exact (m_s_n (fun q => absurd q.2 (by decide))).trans e3
                    have e119 : M116 r 0 = 2 := by rw [← hM117, m_s_s]
                    have fr120 : fr (fun z => r ≤ z ∧ z ≤ r + 28) M M116 := fun z hz => by
                      have hz1 : ¬ (r ≤ z ∧ z ≤ r + 28) := hz
                      rw [← hM117]; exact (m_s_a (by omega)).trans (fr5 z hz)
                    have rw121 : M116 (r + 10) = WC := by rw [← hM117]; exact (m_s_a (of_ne0 (by decide))).trans rw6
                    clear e3 e4 fr5 rw6
                    have md122 : mds sh M116 r := by rw [← hM117]; exact md7.put (by decide)
                    refine go_if_le (tgt := 170) X d_Model_cite_163 rfl (by omega) (fun _ => ?_) (fun h9 => absurd h9 (by decide))
                    refine go_iconst (v := 0) X d_Model_cite_170 ?_
                    refine go_iret X d_Model_cite_171 rfl ?_ (by omega) (by omega) ?_
                    · rfl
                    rw [fi_end (by omega)] at hp2
                    have hfx : ¬ 0 ≤ fx WC n (wof x) := by rw [hwm, ← hp2]; decide
                    have hcode : cik WC n x = 2 := ((if_neg hwn).trans (if_neg hfx)).trans (if_pos (by omega))
                    exact ⟨0, rfl, fun q => absurd (hcode.symm.trans q) (by decide), by decide, rfl, rfl, e119.trans hcode.symm, md122, fr120⟩
                · skip
                  refine go_aload_n X d_Model_cite_129 rfl rfl ?_
                  have sg123 : sh (r + 10) = some (.inr (.long, 10)) := (md7.2.2 9 _ rfl).1
                  have e124 : M1 r 14 = r + 10 := (md7.2.2 9 _ rfl).2
                  refine go_get (v := vr (r + 10)) X f_Model_38 h.1 rfl d_Model_cite_130 (s_varr e124 (by omega)) ?_
                  refine go_iload X d_Model_cite_133 rfl ?_
                  refine go_lald X sg123 (by omega) (by omega) d_Model_cite_135 ?_
                  refine go_top (v' := vl (WC j)) X (by rw [rw6]) ?_
                  have hw1 := hWr j
                  refine go_lload_n X d_Model_cite_136 rfl rfl ?_
                  refine go_lcmp X (by omega) (by omega) d_Model_cite_137 ?_
                  have hc8 := s_cmp_rng (WC j) (mwof x)
                  refine go_if_ne (tgt := 143) X d_Model_cite_138 rfl (by omega) (fun hq125 => ?_) (fun hq125 => ?_)
                  · skip
                    have hn2 : fi WC (mwof x) (n - (j + 1)).toNat (j + 1) = fx WC n (mwof x) := (fi_nxt (by omega) (fun q => hq125 (by rw [q]; unfold s_cmp; rw [if_neg (by omega), if_pos rfl]))).symm.trans hp2
                    refine go_iinc (v := 1) (x := j) (lv' := [(7, vi (j + 1)), (0, vr r), (3, vl (mwof x))]) X d_Model_cite_143 rfl (by decide) rfl ?_
                    refine go_goto (tgt := 120) X d_Model_cite_146 rfl ?_
                    refine go_lv (lv' := [(0, vr r), (3, vl (mwof x)), (7, vi (j + 1))]) X [1, 2, 0] rfl ?_
                    exact ih_lp2_ (j + 1) (by omega) (by omega) hn2 (by omega)
                  · skip
                    refine go_iconst (v := 0) X d_Model_cite_141 ?_
                    refine go_iret X d_Model_cite_142 rfl ?_ (by omega) (by omega) ?_
                    · rfl
                    rw [fi_hit (by omega) (s_cmp0 hq125)] at hp2
                    have hfx : 0 ≤ fx WC n (wof x) := by rw [hwm, ← hp2]; omega
                    have hcode : cik WC n x = 0 := (if_neg hwn).trans (if_pos hfx)
                    exact ⟨0, rfl, fun _ => (if_pos hfx : civl WC n x = 0).symm, by decide, rfl, rfl, e4.trans hcode.symm, md7, fr5⟩
            refine go_lv (lv' := [(0, vr r), (3, vl (mwof x)), (7, vi 0)]) X [1, 2, 0] rfl ?_
            exact lp2_ _ 0 (by omega) (by omega) rfl (Nat.lt_succ_self _)
          · skip
            refine go_aload_n X d_Model_cite_103 rfl rfl ?_
            refine go_iconst (v := 1) X d_Model_cite_104 ?_
            refine go_cVf (st2 := [vi 0]) (r := []) X k_Model_128 (m_fail l D md7 (c := 1)) h.1 rfl rfl (by omega) (Nat.le_of_ble_eq_true rfl) d_Model_cite_105 (by omega) (by omega) rfl ?_
            generalize hM127 : m_s M1 r 0 1 = M126
            have e128 : M126 r 13 = n := by rw [← hM127]; exact (m_s_n (fun q => absurd q.2 (by decide))).trans e3
            have e129 : M126 r 0 = 1 := by rw [← hM127, m_s_s]
            have fr130 : fr (fun z => r ≤ z ∧ z ≤ r + 28) M M126 := fun z hz => by
              have hz1 : ¬ (r ≤ z ∧ z ≤ r + 28) := hz
              rw [← hM127]; exact (m_s_a (by omega)).trans (fr5 z hz)
            have rw131 : M126 (r + 10) = WC := by rw [← hM127]; exact (m_s_a (of_ne0 (by decide))).trans rw6
            clear e3 e4 fr5 rw6
            have md132 : mds sh M126 r := by rw [← hM127]; exact md7.put (by decide)
            refine go_if_le (tgt := 115) X d_Model_cite_108 rfl (by omega) (fun _ => ?_) (fun h9 => absurd h9 (by decide))
            refine go_iconst (v := 0) X d_Model_cite_115 ?_
            refine go_iret X d_Model_cite_116 rfl ?_ (by omega) (by omega) ?_
            · rfl
            have hz : wof x = 0 := Classical.byContradiction (fun q => by have g := (gdd_iff x).mpr q; rw [← hgd, hq94] at g; exact absurd g (by decide))
            have hcode : cik WC n x = 1 := if_pos hz
            exact ⟨0, rfl, fun q => absurd (hcode.symm.trans q) (by decide), by decide, rfl, rfl, e129.trans hcode.symm, md132, fr130⟩
        · skip
          refine go_iload X d_Model_cite_36 rfl ?_
          refine go_ifb_eq (tgt := 98) X d_Model_cite_38 rfl (fun hq133 => ?_) (fun hq133 => ?_)
          · skip
            have hgd : gb = gdd (mwof x) := by unfold gdd; rw [it_stay (gsw (mwof x)) hp (fun z => if_neg (by show ¬ mo = true; rw [hq133]; decide))]
            refine go_iload X d_Model_cite_98 rfl ?_
            refine go_ifb_ne (tgt := 117) X d_Model_cite_100 rfl (fun hq134 => ?_) (fun hq134 => ?_)
            · skip
              refine go_iconst (v := 0) X d_Model_cite_117 ?_
              refine go_istore (lv' := [(7, vi 0), (0, vr r), (3, vl (mwof x)), (5, vi (s_b gb)), (6, vi (s_b mo))]) X d_Model_cite_118 (by decide) rfl ?_
              have hwn : wof x ≠ 0 := (gdd_iff x).mp (hgd.symm.trans hq134)
              have hwm : wof x = mwof x := by rw [wof_mw, if_pos ((gdd_iff x).mpr hwn)]
              have lp2_ : ∀ (fuel : Nat) (j : Int), (0 ≤ j) → (j ≤ n) → (fi WC (mwof x) (n - j).toNat j = fx WC n (mwof x)) → (n - j).toNat < fuel → Go g 0 0 sh M1 sz 120 [(0, vr r), (3, vl (mwof x)), (7, vi j)] [] := by
                intro fuel
                induction fuel with
                | zero => intro j hj hj2 hp2 hm_lp2_; exact absurd hm_lp2_ (Nat.not_lt_zero _)
                | succ fuel ih_lp2_ =>
                  intro j hj hj2 hp2 hm_lp2_
                  refine go_iload X d_Model_cite_120 rfl ?_
                  refine go_aload_n X d_Model_cite_122 rfl rfl ?_
                  refine go_get (v := vi n) X f_Model_228 h.1 rfl d_Model_cite_123 (congrArg (s_v .int) e3) ?_
                  refine go_icmp_ge (tgt := 149) X d_Model_cite_126 rfl (by omega) (by omega) (fun hq135 => ?_) (fun hq135 => ?_)
                  · skip
                    refine go_aload_n X d_Model_cite_149 rfl rfl ?_
                    refine go_get (v := vi n) X f_Model_228 h.1 rfl d_Model_cite_150 (congrArg (s_v .int) e3) ?_
                    refine go_bipush (v := 10) X d_Model_cite_153 (by decide) ?_
                    refine go_icmp_ne (tgt := 172) X d_Model_cite_155 rfl (by omega) (by omega) (fun hq136 => ?_) (fun hq136 => ?_)
                    · skip
                      refine go_aload_n X d_Model_cite_172 rfl rfl ?_
                      have sg137 : sh (r + 10) = some (.inr (.long, 10)) := (md7.2.2 9 _ rfl).1
                      have e138 : M1 r 14 = r + 10 := (md7.2.2 9 _ rfl).2
                      refine go_get (v := vr (r + 10)) X f_Model_38 h.1 rfl d_Model_cite_173 (s_varr e138 (by omega)) ?_
                      refine go_aload_n X d_Model_cite_176 rfl rfl ?_
                      refine go_get (v := vi n) X f_Model_228 h.1 rfl d_Model_cite_177 (congrArg (s_v .int) e3) ?_
                      refine go_lload_n X d_Model_cite_180 rfl rfl ?_
                      refine go_last X sg137 (by omega) (by omega) d_Model_cite_181 ?_
                      generalize hM140 : m_s M1 (r + 10) n (mwof x) = M139
                      have e141 : M139 r 13 = n := by rw [← hM140]; exact (m_s_n (fun q => absurd q.1 (of_ne1 (by decide)))).trans e3
                      have e142 : M139 r 0 = 0 := by rw [← hM140]; exact (m_s_n (fun q => absurd q.1 (of_ne1 (by decide)))).trans e4
                      have e143 : M139 r 14 = r + 10 := by rw [← hM140]; exact (m_s_n (fun q => absurd q.1 (of_ne1 (by decide)))).trans e138
                      have e144 : M139 (r + 10) n = mwof x := by rw [← hM140, m_s_s]
                      have fr145 : fr (fun z => r ≤ z ∧ z ≤ r + 28) M M139 := fun z hz => by
                        have hz1 : ¬ (r ≤ z ∧ z ≤ r + 28) := hz
                        rw [← hM140]; exact (m_s_a (by omega)).trans (fr5 z hz)
                      have rw146 : M139 (r + 10) = rset WC n (mwof x) := by rw [← hM140]; exact row_set rw6
                      clear e138 e3 e4 fr5 rw6
                      have md147 : mds sh M139 r := by rw [← hM140]; exact md7.off (m_s_a (by omega))
                      refine go_aload_n X d_Model_cite_182 rfl rfl ?_
                      refine go_dup X d_Model_cite_183 rfl ?_
                      refine go_get (v := vi n) X f_Model_228 h.1 rfl d_Model_cite_184 (congrArg (s_v .int) e141) ?_
                      refine go_iconst (v := 1) X d_Model_cite_187 ?_
                      refine go_iadd X d_Model_cite_188 ?_
                      refine go_put (x := (n + 1)) (v := vi (n + 1)) X f_Model_228 h.1 rfl d_Model_cite_189 rfl rfl rfl ?_
                      generalize hM149 : m_s M139 r 13 (n + 1) = M148
                      have e150 : M148 r 0 = 0 := by rw [← hM149]; exact (m_s_n (fun q => absurd q.2 (by decide))).trans e142
                      have e151 : M148 r 14 = r + 10 := by rw [← hM149]; exact (m_s_n (fun q => absurd q.2 (by decide))).trans e143
                      have e152 : M148 r 13 = n + 1 := by rw [← hM149, m_s_s]
                      have fr153 : fr (fun z => r ≤ z ∧ z ≤ r + 28) M M148 := fun z hz => by
                        have hz1 : ¬ (r ≤ z ∧ z ≤ r + 28) := hz
                        rw [← hM149]; exact (m_s_a (by omega)).trans (fr145 z hz)
                      have rw154 : M148 (r + 10) = rset WC n (mwof x) := by rw [← hM149]; exact (m_s_a (of_ne0 (by decide))).trans rw146
                      clear e141 e142 e143 fr145 rw146
                      have md155 : mds sh M148 r := by rw [← hM149]; exact md147.put (by decide)
                      refine go_iconst (v := 1) X d_Model_cite_192 ?_
                      refine go_iret X d_Model_cite_193 rfl ?_ (by omega) (by omega) ?_
                      · rfl
                      rw [fi_end (by omega)] at hp2
                      have hfx : ¬ 0 ≤ fx WC n (wof x) := by rw [hwm, ← hp2]; decide
                      have hcode : cik WC n x = 0 := ((if_neg hwn).trans (if_neg hfx)).trans (if_neg (by omega))
                      exact ⟨1, rfl, fun _ => (if_neg hfx : civl WC n x = 1).symm, by decide, rfl, rfl, e150.trans hcode.symm, md155, fr153⟩
                    · skip
                      refine go_aload_n X d_Model_cite_158 rfl rfl ?_
                      refine go_iconst (v := 2) X d_Model_cite_159 ?_
                      refine go_cVf (st2 := [vi 0]) (r := []) X k_Model_128 (m_fail l D md7 (c := 2)) h.1 rfl rfl (by omega) (Nat.le_of_ble_eq_true rfl) d_Model_cite_160 (by omega) (by omega) rfl ?_
                      generalize hM157 : m_s M1 r 0 2 = M156
                      have e158 : M156 r 13 = n := by rw [← hM157]; exact (m_s_n (fun q => absurd q.2 (by decide))).trans e3
                      have e159 : M156 r 0 = 2 := by rw [← hM157, m_s_s]
                      have fr160 : fr (fun z => r ≤ z ∧ z ≤ r + 28) M M156 := fun z hz => by
                        have hz1 : ¬ (r ≤ z ∧ z ≤ r + 28) := hz
                        rw [← hM157]; exact (m_s_a (by omega)).trans (fr5 z hz)
                      have rw161 : M156 (r + 10) = WC := by rw [← hM157]; exact (m_s_a (of_ne0 (by decide))).trans rw6
                      clear e3 e4 fr5 rw6
                      have md162 : mds sh M156 r := by rw [← hM157]; exact md7.put (by decide)
                      refine go_if_le (tgt := 170) X d_Model_cite_163 rfl (by omega) (fun _ => ?_) (fun h9 => absurd h9 (by decide))
                      refine go_iconst (v := 0) X d_Model_cite_170 ?_
                      refine go_iret X d_Model_cite_171 rfl ?_ (by omega) (by omega) ?_
                      · rfl
                      rw [fi_end (by omega)] at hp2
                      have hfx : ¬ 0 ≤ fx WC n (wof x) := by rw [hwm, ← hp2]; decide
                      have hcode : cik WC n x = 2 := ((if_neg hwn).trans (if_neg hfx)).trans (if_pos (by omega))
                      exact ⟨0, rfl, fun q => absurd (hcode.symm.trans q) (by decide), by decide, rfl, rfl, e159.trans hcode.symm, md162, fr160⟩
                  · skip
                    refine go_aload_n X d_Model_cite_129 rfl rfl ?_
                    have sg163 : sh (r + 10) = some (.inr (.long, 10)) := (md7.2.2 9 _ rfl).1
                    have e164 : M1 r 14 = r + 10 := (md7.2.2 9 _ rfl).2
                    refine go_get (v := vr (r + 10)) X f_Model_38 h.1 rfl d_Model_cite_130 (s_varr e164 (by omega)) ?_
                    refine go_iload X d_Model_cite_133 rfl ?_
                    refine go_lald X sg163 (by omega) (by omega) d_Model_cite_135 ?_
                    refine go_top (v' := vl (WC j)) X (by rw [rw6]) ?_
                    have hw1 := hWr j
                    refine go_lload_n X d_Model_cite_136 rfl rfl ?_
                    refine go_lcmp X (by omega) (by omega) d_Model_cite_137 ?_
                    have hc8 := s_cmp_rng (WC j) (mwof x)
                    refine go_if_ne (tgt := 143) X d_Model_cite_138 rfl (by omega) (fun hq165 => ?_) (fun hq165 => ?_)
                    · skip
                      have hn2 : fi WC (mwof x) (n - (j + 1)).toNat (j + 1) = fx WC n (mwof x) := (fi_nxt (by omega) (fun q => hq165 (by rw [q]; unfold s_cmp; rw [if_neg (by omega), if_pos rfl]))).symm.trans hp2
                      refine go_iinc (v := 1) (x := j) (lv' := [(7, vi (j + 1)), (0, vr r), (3, vl (mwof x))]) X d_Model_cite_143 rfl (by decide) rfl ?_
                      refine go_goto (tgt := 120) X d_Model_cite_146 rfl ?_
                      refine go_lv (lv' := [(0, vr r), (3, vl (mwof x)), (7, vi (j + 1))]) X [1, 2, 0] rfl ?_
                      exact ih_lp2_ (j + 1) (by omega) (by omega) hn2 (by omega)
                    · skip
                      refine go_iconst (v := 0) X d_Model_cite_141 ?_
                      refine go_iret X d_Model_cite_142 rfl ?_ (by omega) (by omega) ?_
                      · rfl
                      rw [fi_hit (by omega) (s_cmp0 hq165)] at hp2
                      have hfx : 0 ≤ fx WC n (wof x) := by rw [hwm, ← hp2]; omega
                      have hcode : cik WC n x = 0 := (if_neg hwn).trans (if_pos hfx)
                      exact ⟨0, rfl, fun _ => (if_pos hfx : civl WC n x = 0).symm, by decide, rfl, rfl, e4.trans hcode.symm, md7, fr5⟩
              refine go_lv (lv' := [(0, vr r), (3, vl (mwof x)), (7, vi 0)]) X [1, 2, 0] rfl ?_
              exact lp2_ _ 0 (by omega) (by omega) rfl (Nat.lt_succ_self _)
            · skip
              refine go_aload_n X d_Model_cite_103 rfl rfl ?_
              refine go_iconst (v := 1) X d_Model_cite_104 ?_
              refine go_cVf (st2 := [vi 0]) (r := []) X k_Model_128 (m_fail l D md7 (c := 1)) h.1 rfl rfl (by omega) (Nat.le_of_ble_eq_true rfl) d_Model_cite_105 (by omega) (by omega) rfl ?_
              generalize hM167 : m_s M1 r 0 1 = M166
              have e168 : M166 r 13 = n := by rw [← hM167]; exact (m_s_n (fun q => absurd q.2 (by decide))).trans e3
              have e169 : M166 r 0 = 1 := by rw [← hM167, m_s_s]
              have fr170 : fr (fun z => r ≤ z ∧ z ≤ r + 28) M M166 := fun z hz => by
                have hz1 : ¬ (r ≤ z ∧ z ≤ r + 28) := hz
                rw [← hM167]; exact (m_s_a (by omega)).trans (fr5 z hz)
              have rw171 : M166 (r + 10) = WC := by rw [← hM167]; exact (m_s_a (of_ne0 (by decide))).trans rw6
              clear e3 e4 fr5 rw6
              have md172 : mds sh M166 r := by rw [← hM167]; exact md7.put (by decide)
              refine go_if_le (tgt := 115) X d_Model_cite_108 rfl (by omega) (fun _ => ?_) (fun h9 => absurd h9 (by decide))
              refine go_iconst (v := 0) X d_Model_cite_115 ?_
              refine go_iret X d_Model_cite_116 rfl ?_ (by omega) (by omega) ?_
              · rfl
              have hz : wof x = 0 := Classical.byContradiction (fun q => by have g := (gdd_iff x).mpr q; rw [← hgd, hq134] at g; exact absurd g (by decide))
              have hcode : cik WC n x = 1 := if_pos hz
              exact ⟨0, rfl, fun q => absurd (hcode.symm.trans q) (by decide), by decide, rfl, rfl, e169.trans hcode.symm, md172, fr170⟩
          · skip
            refine go_lload_n X d_Model_cite_41 rfl rfl ?_
            refine go_bipush (v := 8) X d_Model_cite_42 (by decide) ?_
            refine go_iload X d_Model_cite_44 rfl ?_
            refine go_imul X d_Model_cite_46 ?_
            refine go_lshr (z := s_sar (mwof x) (8 * i)) X d_Model_cite_47 (l_sar _ _) ?_
            refine go_ldc2 (x := 255) X w_kl_Model_114 (by decide) d_Model_cite_48 ?_
            refine go_land (z := by_ (mwof x) i) X d_Model_cite_51 (l_sarby (by omega) (by omega)) ?_
            refine go_l2i X d_Model_cite_52 ?_
            have hb0 := by_r (mwof x) i
            refine go_istore (lv' := [(8, vi (by_ (mwof x) i)), (0, vr r), (3, vl (mwof x)), (5, vi (s_b gb)), (6, vi (s_b mo)), (7, vi i)]) X d_Model_cite_53 (by decide) rfl ?_
            refine go_iload X d_Model_cite_55 rfl ?_
            refine go_if_eq (tgt := 64) X d_Model_cite_57 rfl (by omega) (fun hq173 => ?_) (fun hq173 => ?_)
            · skip
              refine go_iconst (v := 0) X d_Model_cite_64 ?_
              refine go_istore (lv' := [(6, vi 0), (8, vi (by_ (mwof x) i)), (0, vr r), (3, vl (mwof x)), (5, vi (s_b gb)), (7, vi i)]) X d_Model_cite_65 (by decide) rfl ?_
              refine go_iload X d_Model_cite_67 rfl ?_
              refine go_ifb_eq (tgt := 89) X d_Model_cite_69 rfl (fun hq174 => ?_) (fun hq174 => ?_)
              · skip
                refine go_iconst (v := 0) X d_Model_cite_89 ?_
                refine go_istore (lv' := [(5, vi 0), (6, vi 0), (8, vi (by_ (mwof x) i)), (0, vr r), (3, vl (mwof x)), (7, vi i)]) X d_Model_cite_90 (by decide) rfl ?_
                have hc0 : decide (by_ (mwof x) i ≠ 0) = false := decide_eq_false (fun q => q hq173)
                have hn := it_nxt (gsw (mwof x)) (s' := (false, false)) hp (by omega) (by simp [gsw, hq133, hc0, hq174])
                refine go_iinc (v := 1) (x := i) (lv' := [(7, vi (i + 1)), (5, vi 0), (6, vi 0), (8, vi (by_ (mwof x) i)), (0, vr r), (3, vl (mwof x))]) X d_Model_cite_92 rfl (by decide) rfl ?_
                refine go_goto (tgt := 29) X d_Model_cite_95 rfl ?_
                refine go_lv (lv' := [(0, vr r), (3, vl (mwof x)), (5, vi 0), (6, vi 0), (7, vi (i + 1))]) X [4, 5, 1, 2, 0] rfl ?_
                exact ih_lp1 (i + 1) false false (by omega) (by omega) hn (by omega)
              · skip
                refine go_iload X d_Model_cite_72 rfl ?_
                refine go_if_eq (tgt := 85) X d_Model_cite_74 rfl (by omega) (fun _ => ?_) (fun h9 => absurd h9 (by decide))
                refine go_iconst (v := 1) X d_Model_cite_85 ?_
                refine go_goto (tgt := 90) X d_Model_cite_86 rfl ?_
                refine go_istore (lv' := [(5, vi 1), (6, vi 0), (8, vi (by_ (mwof x) i)), (0, vr r), (3, vl (mwof x)), (7, vi i)]) X d_Model_cite_90 (by decide) rfl ?_
                have hc0 : decide (by_ (mwof x) i ≠ 0) = false := decide_eq_false (fun q => q hq173)
                have hn := it_nxt (gsw (mwof x)) (s' := (true, false)) hp (by omega) (by simp [gsw, hq133, hc0, hq174])
                refine go_iinc (v := 1) (x := i) (lv' := [(7, vi (i + 1)), (5, vi 1), (6, vi 0), (8, vi (by_ (mwof x) i)), (0, vr r), (3, vl (mwof x))]) X d_Model_cite_92 rfl (by decide) rfl ?_
                refine go_goto (tgt := 29) X d_Model_cite_95 rfl ?_
                refine go_lv (lv' := [(0, vr r), (3, vl (mwof x)), (5, vi 1), (6, vi 0), (7, vi (i + 1))]) X [4, 5, 1, 2, 0] rfl ?_
                exact ih_lp1 (i + 1) true false (by omega) (by omega) hn (by omega)
            · skip
              refine go_iconst (v := 1) X d_Model_cite_60 ?_
              refine go_goto (tgt := 65) X d_Model_cite_61 rfl ?_
              refine go_istore (lv' := [(6, vi 1), (8, vi (by_ (mwof x) i)), (0, vr r), (3, vl (mwof x)), (5, vi (s_b gb)), (7, vi i)]) X d_Model_cite_65 (by decide) rfl ?_
              refine go_iload X d_Model_cite_67 rfl ?_
              refine go_ifb_eq (tgt := 89) X d_Model_cite_69 rfl (fun hq175 => ?_) (fun hq175 => ?_)
              · skip
                refine go_iconst (v := 0) X d_Model_cite_89 ?_
                refine go_istore (lv' := [(5, vi 0), (6, vi 1), (8, vi (by_ (mwof x) i)), (0, vr r), (3, vl (mwof x)), (7, vi i)]) X d_Model_cite_90 (by decide) rfl ?_
                have hc0 : decide (by_ (mwof x) i ≠ 0) = true := decide_eq_true hq173
                have hn := it_nxt (gsw (mwof x)) (s' := (false, true)) hp (by omega) (by simp [gsw, hq133, hc0, hq175])
                refine go_iinc (v := 1) (x := i) (lv' := [(7, vi (i + 1)), (5, vi 0), (6, vi 1), (8, vi (by_ (mwof x) i)), (0, vr r), (3, vl (mwof x))]) X d_Model_cite_92 rfl (by decide) rfl ?_
                refine go_goto (tgt := 29) X d_Model_cite_95 rfl ?_
                refine go_lv (lv' := [(0, vr r), (3, vl (mwof x)), (5, vi 0), (6, vi 1), (7, vi (i + 1))]) X [4, 5, 1, 2, 0] rfl ?_
                exact ih_lp1 (i + 1) false true (by omega) (by omega) hn (by omega)
              · skip
                refine go_iload X d_Model_cite_72 rfl ?_
                refine go_if_eq (tgt := 85) X d_Model_cite_74 rfl (by omega) (fun h9 => absurd h9 (by decide)) (fun _ => ?_)
                refine go_iload X d_Model_cite_77 rfl ?_
                refine go_cSf (st2 := [vi (s_b (p_wc (by_ (mwof x) i)))]) (r := []) X k_Model_156 (m_isWord l D (by omega)) rfl rfl (by omega) (Nat.le_of_ble_eq_true rfl) d_Model_cite_79 (by omega) (by omega) rfl ?_
                refine go_ifb_eq (tgt := 89) X d_Model_cite_82 rfl (fun hq176 => ?_) (fun hq176 => ?_)
                · skip
                  refine go_iconst (v := 0) X d_Model_cite_89 ?_
                  refine go_istore (lv' := [(5, vi 0), (6, vi 1), (8, vi (by_ (mwof x) i)), (0, vr r), (3, vl (mwof x)), (7, vi i)]) X d_Model_cite_90 (by decide) rfl ?_
                  have hc0 : decide (by_ (mwof x) i ≠ 0) = true := decide_eq_true hq173
                  have hn := it_nxt (gsw (mwof x)) (s' := (false, true)) hp (by omega) (by simp [gsw, hq133, hc0, hq175, hq176])
                  refine go_iinc (v := 1) (x := i) (lv' := [(7, vi (i + 1)), (5, vi 0), (6, vi 1), (8, vi (by_ (mwof x) i)), (0, vr r), (3, vl (mwof x))]) X d_Model_cite_92 rfl (by decide) rfl ?_
                  refine go_goto (tgt := 29) X d_Model_cite_95 rfl ?_
                  refine go_lv (lv' := [(0, vr r), (3, vl (mwof x)), (5, vi 0), (6, vi 1), (7, vi (i + 1))]) X [4, 5, 1, 2, 0] rfl ?_
                  exact ih_lp1 (i + 1) false true (by omega) (by omega) hn (by omega)
                · skip
                  refine go_iconst (v := 1) X d_Model_cite_85 ?_
                  refine go_goto (tgt := 90) X d_Model_cite_86 rfl ?_
                  refine go_istore (lv' := [(5, vi 1), (6, vi 1), (8, vi (by_ (mwof x) i)), (0, vr r), (3, vl (mwof x)), (7, vi i)]) X d_Model_cite_90 (by decide) rfl ?_
                  have hc0 : decide (by_ (mwof x) i ≠ 0) = true := decide_eq_true hq173
                  have hn := it_nxt (gsw (mwof x)) (s' := (true, true)) hp (by omega) (by simp [gsw, hq133, hc0, hq175, hq176])
                  refine go_iinc (v := 1) (x := i) (lv' := [(7, vi (i + 1)), (5, vi 1), (6, vi 1), (8, vi (by_ (mwof x) i)), (0, vr r), (3, vl (mwof x))]) X d_Model_cite_92 rfl (by decide) rfl ?_
                  refine go_goto (tgt := 29) X d_Model_cite_95 rfl ?_
                  refine go_lv (lv' := [(0, vr r), (3, vl (mwof x)), (5, vi 1), (6, vi 1), (7, vi (i + 1))]) X [4, 5, 1, 2, 0] rfl ?_
                  exact ih_lp1 (i + 1) true true (by omega) (by omega) hn (by omega)
    refine go_lv (lv' := [(0, vr r), (3, vl (mwof x)), (5, vi 1), (6, vi 1), (7, vi 0)]) X [4, 3, 2, 1, 0] rfl ?_
    exact lp1 _ 0 true true (by omega) (by omega) (by rw [hg0]) (Nat.lt_succ_self _)
