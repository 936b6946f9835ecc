def A_fail (N : Nat) (x1 : Int) (S : s_M) : rO := some (0, m_s S 0 0 x1)
theorem A_fail_e (N : Nat) (x1 : Int) (S : s_M) : A_fail N x1 S = (some (0, m_s S 0 0 x1)) := rfl
set_option maxHeartbeats 4000000 in
set_option maxRecDepth 100000 in
theorem a_fail (l : Launch) (D : va_G) {sh : s_S} {M0 M : s_M} {sz r x1 : Int} {N : Nat} {S S0 : s_M} {v0 : Int} (h : mq sh M0 M r S) (hx1 : rI x1) (hF : A_fail N x1 S = some (v0, S0)) : Sp l D y_Model_fail prog_14_method_3_code 2 (some .int) 1 0 0 [vr r, vi x1] sh M sz (fun v' sh' M' sz' => v' = some (vi v0) ∧ sh' = sh ∧ sz' = sz ∧ rI v0 ∧ mq sh M0 M' r S0) := by
  have hr0 := h.1.2.1
  refine Sp.ofGo (own := "CiteForgeModel") (nm := "fail") (by decide) rfl rfl (Nat.le_of_ble_eq_true rfl) (lv := [(0, vr r), (1, vi x1)]) rfl ?_
  intro g X
  rw [A_fail_e] at hF
  refine go_aload_n X d_Model_fail_0 rfl rfl ?_
  refine go_iload_n X d_Model_fail_1 rfl rfl ?_
  refine go_put (x := x1) (v := vi x1) X f_Model_95 h.1.1 rfl d_Model_fail_2 rfl rfl rfl ?_
  have md1 : mq sh M0 (m_s M r 0 x1) r (m_s S 0 0 x1) := h.put0 (by decide) ((rg_S (by decide) (by decide) hx1))
  generalize m_s M r 0 x1 = M2 at md1 ⊢
  refine go_iconst (v := 0) X d_Model_fail_5 ?_
  exact go_iret X d_Model_fail_6 rfl rfl (by decide) (by decide) (ret_i hF (by decide) md1)
def A_write_l116 (N : Nat) : Nat → Int → Int → Int → s_M → rO
  | 0, _, _, _, _ => none
  | n + 1, x1, x3, x5, S => if x5 < x3 then (chk (rI ((S 0 2) + x5)) <| chk (rI (8 * x5)) <| chk (0 ≤ ((S 0 2) + x5) ∧ ((S 0 2) + x5) < 320) <| chk (rI (x5 + 1)) <| (A_write_l116 N n) x1 x3 (x5 + 1) (m_s S 2 ((S 0 2) + x5) (wi32 (l_and (s_sar x1 (8 * x5)) 255)))) else (chk (rI ((S 0 2) + x3)) <| some ((S 0 2) + x3, m_s S 0 2 ((S 0 2) + x3)))
theorem A_write_l116_e (N : Nat) (n : Nat) (x1 x3 x5 : Int) (S : s_M) : A_write_l116 N (n + 1) x1 x3 x5 S = (if x5 < x3 then (chk (rI ((S 0 2) + x5)) <| chk (rI (8 * x5)) <| chk (0 ≤ ((S 0 2) + x5) ∧ ((S 0 2) + x5) < 320) <| chk (rI (x5 + 1)) <| (A_write_l116 N n) x1 x3 (x5 + 1) (m_s S 2 ((S 0 2) + x5) (wi32 (l_and (s_sar x1 (8 * x5)) 255)))) else (chk (rI ((S 0 2) + x3)) <| some ((S 0 2) + x3, m_s S 0 2 ((S 0 2) + x3)))) := rfl
def A_write_l27 (N : Nat) : Nat → Int → Int → Int → Int → s_M → rO
  | 0, _, _, _, _, _ => none
  | n + 1, x1, x3, x4, x5, S => if x5 < x3 then (chk (rI (8 * x5)) <| chk (rI (x5 + 1)) <| (A_write_l27 N n) x1 x3 (if x4 = 0 then (0 : Int) else (if (wi32 (l_and (s_sar x1 (8 * x5)) 255)) = 10 then (1 : Int) else (if (decide (32 ≤ (wi32 (l_and (s_sar x1 (8 * x5)) 255)) ∧ (wi32 (l_and (s_sar x1 (8 * x5)) 255)) ≤ 126)) = true then (1 : Int) else 0))) (x5 + 1) S) else (if x4 = 0 then (bnd (A_fail N 1 S) fun v35 S36 => some (v35, S36)) else (chk (rI ((S 0 2) + x3)) <| if 320 < ((S 0 2) + x3) then (bnd (A_fail N 2 S) fun v27 S28 => some (v27, S28)) else (A_write_l116 N N x1 x3 0 S)))
theorem A_write_l27_e (N : Nat) (n : Nat) (x1 x3 x4 x5 : Int) (S : s_M) : A_write_l27 N (n + 1) x1 x3 x4 x5 S = (if x5 < x3 then (chk (rI (8 * x5)) <| chk (rI (x5 + 1)) <| (A_write_l27 N n) x1 x3 (if x4 = 0 then (0 : Int) else (if (wi32 (l_and (s_sar x1 (8 * x5)) 255)) = 10 then (1 : Int) else (if (decide (32 ≤ (wi32 (l_and (s_sar x1 (8 * x5)) 255)) ∧ (wi32 (l_and (s_sar x1 (8 * x5)) 255)) ≤ 126)) = true then (1 : Int) else 0))) (x5 + 1) S) else (if x4 = 0 then (bnd (A_fail N 1 S) fun v35 S36 => some (v35, S36)) else (chk (rI ((S 0 2) + x3)) <| if 320 < ((S 0 2) + x3) then (bnd (A_fail N 2 S) fun v27 S28 => some (v27, S28)) else (A_write_l116 N N x1 x3 0 S)))) := rfl
def A_write (N : Nat) (x1 x3 : Int) (S : s_M) : rO := if (decide (1 ≤ x3 ∧ x3 ≤ 8)) = true then (A_write_l27 N N x1 x3 1 0 (m_s S 0 0 0)) else (bnd (A_fail N 1 (m_s S 0 0 0)) fun v56 S57 => some (v56, S57))
theorem A_write_e (N : Nat) (x1 x3 : Int) (S : s_M) : A_write N x1 x3 S = (if (decide (1 ≤ x3 ∧ x3 ≤ 8)) = true then (A_write_l27 N N x1 x3 1 0 (m_s S 0 0 0)) else (bnd (A_fail N 1 (m_s S 0 0 0)) fun v56 S57 => some (v56, S57))) := rfl
set_option maxHeartbeats 4000000 in
set_option maxRecDepth 100000 in
theorem a_write (l : Launch) (D : va_G) {sh : s_S} {M0 M : s_M} {sz r x1 x3 : Int} {N : Nat} {S S0 : s_M} {v0 : Int} (h : mq sh M0 M r S) (hx1 : rL x1) (hx3 : rI x3) (hF : A_write N x1 x3 S = some (v0, S0)) : Sp l D y_Model_write prog_14_method_18_code 7 (some .int) 2 0 0 [vr r, vl x1, vi x3] sh M sz (fun v' sh' M' sz' => v' = some (vi v0) ∧ sh' = sh ∧ sz' = sz ∧ rI v0 ∧ mq sh M0 M' r S0) := by
  have hr0 := h.1.2.1
  refine Sp.ofGo (own := "CiteForgeModel") (nm := "write") (by decide) rfl rfl (Nat.le_of_ble_eq_true rfl) (lv := [(0, vr r), (1, vl x1), (3, vi x3)]) rfl ?_
  intro g X
  have hL116 : ∀ (n116 : Nat) (x1 x3 x5 : Int) (S1 M1 : s_M), rL x1 → rI x3 → rI x5 → mq sh M0 M1 r S1 → A_write_l116 N n116 x1 x3 x5 S1 = some (v0, S0) → Go g 0 0 sh M1 sz 116 [(0, vr r), (1, vl x1), (3, vi x3), (5, vi x5)] [] := by
    intro n116
    induction n116 with
    | zero => intro x1 x3 x5 S1 M1 hx1 hx3 hx5 hm hF; cases hF
    | succ n116 ih116 =>
      intro x1 x3 x5 S1 M1 hx1 hx3 hx5 hm hF
      rw [A_write_l116_e] at hF
      refine go_iload X d_Model_write_116 rfl ?_
      refine go_iload_n X d_Model_write_118 rfl rfl ?_
      refine go_icmp_ge (tgt := 152) X d_Model_write_119 rfl hx5 hx3 (fun hq1 => ?_) (fun hq1 => ?_)
      · skip
        have hF2 := if_f hF (Int.not_lt.mpr hq1)
        refine go_aload_n X d_Model_write_152 rfl rfl ?_
        refine go_dup X d_Model_write_153 rfl ?_
        refine go_get (v := vi (S1 0 2)) X f_Model_131 hm.1.1 rfl d_Model_write_154 (congrArg (s_v .int) ((hm.s 2).trans (rfl))) ?_
        refine go_iload_n X d_Model_write_157 rfl rfl ?_
        refine go_iadd X d_Model_write_158 ?_
        obtain ⟨hc3, hF4⟩ := chk_t hF2
        refine go_put (x := ((S1 0 2) + x3)) (v := vi ((S1 0 2) + x3)) X f_Model_131 hm.1.1 rfl d_Model_write_159 rfl rfl rfl ?_
        have md5 : mq sh M0 (m_s M1 r 2 ((S1 0 2) + x3)) r (m_s S1 0 2 ((S1 0 2) + x3)) := hm.put0 (by decide) ((rg_S (by decide) (by decide) hc3))
        generalize m_s M1 r 2 ((S1 0 2) + x3) = M6 at md5 ⊢
        refine go_aload_n X d_Model_write_162 rfl rfl ?_
        refine go_get (v := vi ((S1 0 2) + x3)) X f_Model_131 md5.1.1 rfl d_Model_write_163 (congrArg (s_v .int) ((md5.s 2).trans (m_s_s))) ?_
        exact go_iret X d_Model_write_166 rfl rfl (by decide) (by decide) (ret_i hF4 hc3 md5)
      · skip
        have hF7 := if_t hF hq1
        refine go_aload_n X d_Model_write_122 rfl rfl ?_
        refine go_get (v := vr (r + 2)) X f_Model_13 hm.1.1 rfl d_Model_write_123 (s_varr (hm.1.2.2 1 _ rfl).2 (by omega)) ?_
        refine go_aload_n X d_Model_write_126 rfl rfl ?_
        refine go_get (v := vi (S1 0 2)) X f_Model_131 hm.1.1 rfl d_Model_write_127 (congrArg (s_v .int) ((hm.s 2).trans (rfl))) ?_
        refine go_iload X d_Model_write_130 rfl ?_
        refine go_iadd X d_Model_write_132 ?_
        obtain ⟨hc8, hF9⟩ := chk_t hF7
        refine go_lload_n X d_Model_write_133 rfl rfl ?_
        refine go_bipush (v := 8) X d_Model_write_134 (by decide) ?_
        refine go_iload X d_Model_write_136 rfl ?_
        refine go_imul X d_Model_write_138 ?_
        obtain ⟨hc10, hF11⟩ := chk_t hF9
        refine go_lshr (z := s_sar x1 (8 * x5)) X d_Model_write_139 (Int64.ofInt_toInt _).symm ?_
        refine go_ldc2 (x := 255) X w_kl_Model_114 (by decide) d_Model_write_140 ?_
        refine go_land (z := l_and (s_sar x1 (8 * x5)) 255) X d_Model_write_143 (Int64.ofInt_toInt _).symm ?_
        refine go_l2i X d_Model_write_144 ?_
        refine go_top (v' := vi (wi32 (l_and (s_sar x1 (8 * x5)) 255))) X (wi32_vi _) ?_
        obtain ⟨hc12, hF13⟩ := chk_t hF11
        refine go_iast (x := (wi32 (l_and (s_sar x1 (8 * x5)) 255))) X (hm.1.2.2 1 _ rfl).1 (by decide) hc12 d_Model_write_145 ?_
        have md14 : mq sh M0 (m_s M1 (r + 2) ((S1 0 2) + x5) (wi32 (l_and (s_sar x1 (8 * x5)) 255))) r (m_s S1 2 ((S1 0 2) + x5) (wi32 (l_and (s_sar x1 (8 * x5)) 255))) := hm.put (by decide) ((rg_A (by decide) (wi32_rng _)))
        generalize m_s M1 (r + 2) ((S1 0 2) + x5) (wi32 (l_and (s_sar x1 (8 * x5)) 255)) = M15 at md14 ⊢
        obtain ⟨hc16, hF17⟩ := chk_t hF13
        refine go_iinc (v := 1) (x := x5) (lv' := [(5, vi (x5 + 1)), (0, vr r), (1, vl x1), (3, vi x3)]) X d_Model_write_146 rfl (by decide) rfl ?_
        refine go_goto (tgt := 116) X d_Model_write_149 rfl ?_
        refine go_lv (lv' := [(0, vr r), (1, vl x1), (3, vi x3), (5, vi (x5 + 1))]) X [1, 2, 3, 0] rfl ?_
        exact ih116 x1 x3 (x5 + 1) (m_s S1 2 ((S1 0 2) + x5) (wi32 (l_and (s_sar x1 (8 * x5)) 255))) M15 hx1 hx3 hc16 md14 hF17
  have hL27 : ∀ (n27 : Nat) (x1 x3 x4 x5 : Int) (S1 M1 : s_M), rL x1 → rI x3 → rI x4 → rI x5 → mq sh M0 M1 r S1 → A_write_l27 N n27 x1 x3 x4 x5 S1 = some (v0, S0) → Go g 0 0 sh M1 sz 27 [(0, vr r), (1, vl x1), (3, vi x3), (4, vi x4), (5, vi x5)] [] := by
    intro n27
    induction n27 with
    | zero => intro x1 x3 x4 x5 S1 M1 hx1 hx3 hx4 hx5 hm hF; cases hF
    | succ n27 ih27 =>
      intro x1 x3 x4 x5 S1 M1 hx1 hx3 hx4 hx5 hm hF
      rw [A_write_l27_e] at hF
      refine go_iload X d_Model_write_27 rfl ?_
      refine go_iload_n X d_Model_write_29 rfl rfl ?_
      refine go_icmp_ge (tgt := 84) X d_Model_write_30 rfl hx5 hx3 (fun hq18 => ?_) (fun hq18 => ?_)
      · skip
        have hF19 := if_f hF (Int.not_lt.mpr hq18)
        refine go_iload X d_Model_write_84 rfl ?_
        refine go_if_ne (tgt := 95) X d_Model_write_86 rfl hx4 (fun hq20 => ?_) (fun hq20 => ?_)
        · skip
          have hF21 := if_f hF19 hq20
          refine go_aload_n X d_Model_write_95 rfl rfl ?_
          refine go_get (v := vi (S1 0 2)) X f_Model_131 hm.1.1 rfl d_Model_write_96 (congrArg (s_v .int) ((hm.s 2).trans (rfl))) ?_
          refine go_iload_n X d_Model_write_99 rfl rfl ?_
          refine go_iadd X d_Model_write_100 ?_
          obtain ⟨hc22, hF23⟩ := chk_t hF21
          refine go_sipush (v := 320) X d_Model_write_101 (by decide) ?_
          refine go_icmp_le (tgt := 113) X d_Model_write_104 rfl hc22 (by decide) (fun hq24 => ?_) (fun hq24 => ?_)
          · skip
            have hF25 := if_f hF23 (Int.not_lt.mpr hq24)
            refine go_iconst (v := 0) X d_Model_write_113 ?_
            refine go_istore (lv' := [(5, vi 0), (0, vr r), (1, vl x1), (3, vi x3), (4, vi x4)]) X d_Model_write_114 (by decide) rfl ?_
            refine go_lv (lv' := [(0, vr r), (1, vl x1), (3, vi x3), (5, vi 0)]) X [1, 2, 3, 0] rfl ?_
            exact hL116 N x1 x3 0 S1 M1 hx1 hx3 (by decide) hm hF25
          · skip
            have hF26 := if_t hF23 hq24
            refine go_aload_n X d_Model_write_107 rfl rfl ?_
            refine go_iconst (v := 2) X d_Model_write_108 ?_
            obtain ⟨v27, S28, hG29, hF30⟩ := bnd_t hF26
            refine go_cV (st2 := []) (r := []) X k_Model_128 (a_fail l D hm (by decide) hG29) hm.1.1 rfl rfl (by decide) (Nat.le_of_ble_eq_true rfl) d_Model_write_109 (by decide) (by decide) (fun v' sh' M31 sz' hpp => ?_)
            obtain ⟨e1, e2, e3, hv33, md32⟩ := hpp
            subst e1
            rw [e2, e3]
            clear e2 e3
            show Go g 0 0 sh M31 sz 112 [(0, vr r), (1, vl x1), (3, vi x3), (4, vi x4), (5, vi x5)] [vi v27]
            exact go_iret X d_Model_write_112 rfl rfl (by decide) (by decide) (ret_i hF30 hv33 md32)
        · skip
          have hF34 := if_t hF19 hq20
          refine go_aload_n X d_Model_write_89 rfl rfl ?_
          refine go_iconst (v := 1) X d_Model_write_90 ?_
          obtain ⟨v35, S36, hG37, hF38⟩ := bnd_t hF34
          refine go_cV (st2 := []) (r := []) X k_Model_128 (a_fail l D hm (by decide) hG37) hm.1.1 rfl rfl (by decide) (Nat.le_of_ble_eq_true rfl) d_Model_write_91 (by decide) (by decide) (fun v' sh' M39 sz' hpp => ?_)
          obtain ⟨e1, e2, e3, hv41, md40⟩ := hpp
          subst e1
          rw [e2, e3]
          clear e2 e3
          show Go g 0 0 sh M39 sz 94 [(0, vr r), (1, vl x1), (3, vi x3), (4, vi x4), (5, vi x5)] [vi v35]
          exact go_iret X d_Model_write_94 rfl rfl (by decide) (by decide) (ret_i hF38 hv41 md40)
      · skip
        have hF42 := if_t hF hq18
        refine go_lload_n X d_Model_write_33 rfl rfl ?_
        refine go_bipush (v := 8) X d_Model_write_34 (by decide) ?_
        refine go_iload X d_Model_write_36 rfl ?_
        refine go_imul X d_Model_write_38 ?_
        obtain ⟨hc43, hF44⟩ := chk_t hF42
        refine go_lshr (z := s_sar x1 (8 * x5)) X d_Model_write_39 (Int64.ofInt_toInt _).symm ?_
        refine go_ldc2 (x := 255) X w_kl_Model_114 (by decide) d_Model_write_40 ?_
        refine go_land (z := l_and (s_sar x1 (8 * x5)) 255) X d_Model_write_43 (Int64.ofInt_toInt _).symm ?_
        refine go_l2i X d_Model_write_44 ?_
        refine go_top (v' := vi (wi32 (l_and (s_sar x1 (8 * x5)) 255))) X (wi32_vi _) ?_
        refine go_istore (lv' := [(6, vi (wi32 (l_and (s_sar x1 (8 * x5)) 255))), (0, vr r), (1, vl x1), (3, vi x3), (4, vi x4), (5, vi x5)]) X d_Model_write_45 (by decide) rfl ?_
        refine go_iload X d_Model_write_47 rfl ?_
        suffices hv45 : Go g 0 0 sh M1 sz 76 [(6, vi (wi32 (l_and (s_sar x1 (8 * x5)) 255))), (0, vr r), (1, vl x1), (3, vi x3), (4, vi x4), (5, vi x5)] [vi (if x4 = 0 then (0 : Int) else (if (wi32 (l_and (s_sar x1 (8 * x5)) 255)) = 10 then (1 : Int) else (if (decide (32 ≤ (wi32 (l_and (s_sar x1 (8 * x5)) 255)) ∧ (wi32 (l_and (s_sar x1 (8 * x5)) 255)) ≤ 126)) = true then (1 : Int) else 0)))] by
          refine go_if_eq (tgt := 75) X d_Model_write_49 rfl hx4 (fun hq46 => ?_) (fun hq46 => ?_)
          · skip
            refine go_iconst (v := 0) X d_Model_write_75 ?_
            refine go_top (v' := vi (if x4 = 0 then (0 : Int) else (if (wi32 (l_and (s_sar x1 (8 * x5)) 255)) = 10 then (1 : Int) else (if (decide (32 ≤ (wi32 (l_and (s_sar x1 (8 * x5)) 255)) ∧ (wi32 (l_and (s_sar x1 (8 * x5)) 255)) ≤ 126)) = true then (1 : Int) else 0)))) X (congrArg (fun q => vi q) (show 0 = if x4 = 0 then (0 : Int) else (if (wi32 (l_and (s_sar x1 (8 * x5)) 255)) = 10 then (1 : Int) else (if (decide (32 ≤ (wi32 (l_and (s_sar x1 (8 * x5)) 255)) ∧ (wi32 (l_and (s_sar x1 (8 * x5)) 255)) ≤ 126)) = true then (1 : Int) else 0)) from ((if_pos hq46)).symm)) ?_
            exact hv45
          · skip
            refine go_iload X d_Model_write_52 rfl ?_
            refine go_bipush (v := 10) X d_Model_write_54 (by decide) ?_
            refine go_icmp_eq (tgt := 71) X d_Model_write_56 rfl (wi32_rng _) (by decide) (fun hq47 => ?_) (fun hq47 => ?_)
            · skip
              refine go_iconst (v := 1) X d_Model_write_71 ?_
              refine go_goto (tgt := 76) X d_Model_write_72 rfl ?_
              refine go_top (v' := vi (if x4 = 0 then (0 : Int) else (if (wi32 (l_and (s_sar x1 (8 * x5)) 255)) = 10 then (1 : Int) else (if (decide (32 ≤ (wi32 (l_and (s_sar x1 (8 * x5)) 255)) ∧ (wi32 (l_and (s_sar x1 (8 * x5)) 255)) ≤ 126)) = true then (1 : Int) else 0)))) X (congrArg (fun q => vi q) (show 1 = if x4 = 0 then (0 : Int) else (if (wi32 (l_and (s_sar x1 (8 * x5)) 255)) = 10 then (1 : Int) else (if (decide (32 ≤ (wi32 (l_and (s_sar x1 (8 * x5)) 255)) ∧ (wi32 (l_and (s_sar x1 (8 * x5)) 255)) ≤ 126)) = true then (1 : Int) else 0)) from ((if_neg hq46).trans ((if_pos hq47))).symm)) ?_
              exact hv45
            · skip
              refine go_iload X d_Model_write_59 rfl ?_
              refine go_bipush (v := 32) X d_Model_write_61 (by decide) ?_
              refine go_bipush (v := 126) X d_Model_write_63 (by decide) ?_
              refine go_cSf (st2 := [vi (s_b (decide (32 ≤ (wi32 (l_and (s_sar x1 (8 * x5)) 255)) ∧ (wi32 (l_and (s_sar x1 (8 * x5)) 255)) ≤ 126)))]) (r := []) X k_Model_103 (m_within l D (wi32_rng _) (by decide) (by decide)) rfl rfl (by decide) (Nat.le_of_ble_eq_true rfl) d_Model_write_65 (by decide) (by decide) rfl ?_
              refine go_ifb_eq (tgt := 75) X d_Model_write_68 rfl (fun hq48 => ?_) (fun hq48 => ?_)
              · skip
                refine go_iconst (v := 0) X d_Model_write_75 ?_
                refine go_top (v' := vi (if x4 = 0 then (0 : Int) else (if (wi32 (l_and (s_sar x1 (8 * x5)) 255)) = 10 then (1 : Int) else (if (decide (32 ≤ (wi32 (l_and (s_sar x1 (8 * x5)) 255)) ∧ (wi32 (l_and (s_sar x1 (8 * x5)) 255)) ≤ 126)) = true then (1 : Int) else 0)))) X (congrArg (fun q => vi q) (show 0 = if x4 = 0 then (0 : Int) else (if (wi32 (l_and (s_sar x1 (8 * x5)) 255)) = 10 then (1 : Int) else (if (decide (32 ≤ (wi32 (l_and (s_sar x1 (8 * x5)) 255)) ∧ (wi32 (l_and (s_sar x1 (8 * x5)) 255)) ≤ 126)) = true then (1 : Int) else 0)) from ((if_neg hq46).trans ((if_neg hq47).trans ((if_neg (bnf hq48))))).symm)) ?_
                exact hv45
              · skip
                refine go_iconst (v := 1) X d_Model_write_71 ?_
                refine go_goto (tgt := 76) X d_Model_write_72 rfl ?_
                refine go_top (v' := vi (if x4 = 0 then (0 : Int) else (if (wi32 (l_and (s_sar x1 (8 * x5)) 255)) = 10 then (1 : Int) else (if (decide (32 ≤ (wi32 (l_and (s_sar x1 (8 * x5)) 255)) ∧ (wi32 (l_and (s_sar x1 (8 * x5)) 255)) ≤ 126)) = true then (1 : Int) else 0)))) X (congrArg (fun q => vi q) (show 1 = if x4 = 0 then (0 : Int) else (if (wi32 (l_and (s_sar x1 (8 * x5)) 255)) = 10 then (1 : Int) else (if (decide (32 ≤ (wi32 (l_and (s_sar x1 (8 * x5)) 255)) ∧ (wi32 (l_and (s_sar x1 (8 * x5)) 255)) ≤ 126)) = true then (1 : Int) else 0)) from ((if_neg hq46).trans ((if_neg hq47).trans ((if_pos hq48)))).symm)) ?_
                exact hv45
        refine go_istore (lv' := [(4, vi (if x4 = 0 then (0 : Int) else (if (wi32 (l_and (s_sar x1 (8 * x5)) 255)) = 10 then (1 : Int) else (if (decide (32 ≤ (wi32 (l_and (s_sar x1 (8 * x5)) 255)) ∧ (wi32 (l_and (s_sar x1 (8 * x5)) 255)) ≤ 126)) = true then (1 : Int) else 0)))), (6, vi (wi32 (l_and (s_sar x1 (8 * x5)) 255))), (0, vr r), (1, vl x1), (3, vi x3), (5, vi x5)]) X d_Model_write_76 (by decide) rfl ?_
        obtain ⟨hc49, hF50⟩ := chk_t hF44
        refine go_iinc (v := 1) (x := x5) (lv' := [(5, vi (x5 + 1)), (4, vi (if x4 = 0 then (0 : Int) else (if (wi32 (l_and (s_sar x1 (8 * x5)) 255)) = 10 then (1 : Int) else (if (decide (32 ≤ (wi32 (l_and (s_sar x1 (8 * x5)) 255)) ∧ (wi32 (l_and (s_sar x1 (8 * x5)) 255)) ≤ 126)) = true then (1 : Int) else 0)))), (6, vi (wi32 (l_and (s_sar x1 (8 * x5)) 255))), (0, vr r), (1, vl x1), (3, vi x3)]) X d_Model_write_78 rfl (by decide) rfl ?_
        refine go_goto (tgt := 27) X d_Model_write_81 rfl ?_
        refine go_lv (lv' := [(0, vr r), (1, vl x1), (3, vi x3), (4, vi (if x4 = 0 then (0 : Int) else (if (wi32 (l_and (s_sar x1 (8 * x5)) 255)) = 10 then (1 : Int) else (if (decide (32 ≤ (wi32 (l_and (s_sar x1 (8 * x5)) 255)) ∧ (wi32 (l_and (s_sar x1 (8 * x5)) 255)) ≤ 126)) = true then (1 : Int) else 0)))), (5, vi (x5 + 1))]) X [3, 4, 5, 1, 0] rfl ?_
        exact ih27 x1 x3 (if x4 = 0 then (0 : Int) else (if (wi32 (l_and (s_sar x1 (8 * x5)) 255)) = 10 then (1 : Int) else (if (decide (32 ≤ (wi32 (l_and (s_sar x1 (8 * x5)) 255)) ∧ (wi32 (l_and (s_sar x1 (8 * x5)) 255)) ≤ 126)) = true then (1 : Int) else 0))) (x5 + 1) S1 M1 hx1 hx3 (rI_ite (by decide) (rI_ite (by decide) (rI_ite (by decide) (by decide)))) hc49 hm hF50
  rw [A_write_e] at hF
  refine go_aload_n X d_Model_write_0 rfl rfl ?_
  refine go_iconst (v := 0) X d_Model_write_1 ?_
  refine go_put (x := 0) (v := vi 0) X f_Model_95 h.1.1 rfl d_Model_write_2 rfl rfl rfl ?_
  have md51 : mq sh M0 (m_s M r 0 0) r (m_s S 0 0 0) := h.put0 (by decide) ((rg_S (by decide) (by decide) (by decide)))
  generalize m_s M r 0 0 = M52 at md51 ⊢
  refine go_iload_n X d_Model_write_5 rfl rfl ?_
  refine go_iconst (v := 1) X d_Model_write_6 ?_
  refine go_bipush (v := 8) X d_Model_write_7 (by decide) ?_
  refine go_cSf (st2 := [vi (s_b (decide (1 ≤ x3 ∧ x3 ≤ 8)))]) (r := []) X k_Model_103 (m_within l D hx3 (by decide) (by decide)) rfl rfl (by decide) (Nat.le_of_ble_eq_true rfl) d_Model_write_9 (by decide) (by decide) rfl ?_
  refine go_ifb_ne (tgt := 21) X d_Model_write_12 rfl (fun hq53 => ?_) (fun hq53 => ?_)
  · skip
    have hF54 := if_t hF hq53
    refine go_iconst (v := 1) X d_Model_write_21 ?_
    refine go_istore (lv' := [(4, vi 1), (0, vr r), (1, vl x1), (3, vi x3)]) X d_Model_write_22 (by decide) rfl ?_
    refine go_iconst (v := 0) X d_Model_write_24 ?_
    refine go_istore (lv' := [(5, vi 0), (4, vi 1), (0, vr r), (1, vl x1), (3, vi x3)]) X d_Model_write_25 (by decide) rfl ?_
    refine go_lv (lv' := [(0, vr r), (1, vl x1), (3, vi x3), (4, vi 1), (5, vi 0)]) X [2, 3, 4, 1, 0] rfl ?_
    exact hL27 N x1 x3 1 0 (m_s S 0 0 0) M52 hx1 hx3 (by decide) (by decide) md51 hF54
  · skip
    have hF55 := if_f hF (bnf hq53)
    refine go_aload_n X d_Model_write_15 rfl rfl ?_
    refine go_iconst (v := 1) X d_Model_write_16 ?_
    obtain ⟨v56, S57, hG58, hF59⟩ := bnd_t hF55
    refine go_cV (st2 := []) (r := []) X k_Model_128 (a_fail l D md51 (by decide) hG58) md51.1.1 rfl rfl (by decide) (Nat.le_of_ble_eq_true rfl) d_Model_write_17 (by decide) (by decide) (fun v' sh' M60 sz' hpp => ?_)
    obtain ⟨e1, e2, e3, hv62, md61⟩ := hpp
    subst e1
    rw [e2, e3]
    clear e2 e3
    show Go g 0 0 sh M60 sz 20 [(0, vr r), (1, vl x1), (3, vi x3)] [vi v56]
    exact go_iret X d_Model_write_20 rfl rfl (by decide) (by decide) (ret_i hF59 hv62 md61)
def A_erase (N : Nat) (S : s_M) : rO := some (S 0 2, m_s (m_s S 0 0 0) 0 2 0)
theorem A_erase_e (N : Nat) (S : s_M) : A_erase N S = (some (S 0 2, m_s (m_s S 0 0 0) 0 2 0)) := rfl
set_option maxHeartbeats 4000000 in
set_option maxRecDepth 100000 in
theorem a_erase (l : Launch) (D : va_G) {sh : s_S} {M0 M : s_M} {sz r  : Int} {N : Nat} {S S0 : s_M} {v0 : Int} (h : mq sh M0 M r S) (hF : A_erase N S = some (v0, S0)) : Sp l D y_Model_erase prog_14_method_19_code 2 (some .int) 1 0 0 [vr r] sh M sz (fun v' sh' M' sz' => v' = some (vi v0) ∧ sh' = sh ∧ sz' = sz ∧ rI v0 ∧ mq sh M0 M' r S0) := by
  have hr0 := h.1.2.1
  refine Sp.ofGo (own := "CiteForgeModel") (nm := "erase") (by decide) rfl rfl (Nat.le_of_ble_eq_true rfl) (lv := [(0, vr r)]) rfl ?_
  intro g X
  rw [A_erase_e] at hF
  refine go_aload_n X d_Model_erase_0 rfl rfl ?_
  refine go_iconst (v := 0) X d_Model_erase_1 ?_
  refine go_put (x := 0) (v := vi 0) X f_Model_95 h.1.1 rfl d_Model_erase_2 rfl rfl rfl ?_
  have md1 : mq sh M0 (m_s M r 0 0) r (m_s S 0 0 0) := h.put0 (by decide) ((rg_S (by decide) (by decide) (by decide)))
  generalize m_s M r 0 0 = M2 at md1 ⊢
  refine go_aload_n X d_Model_erase_5 rfl rfl ?_
  refine go_get (v := vi (S 0 2)) X f_Model_131 md1.1.1 rfl d_Model_erase_6 (congrArg (s_v .int) ((md1.s 2).trans ((m_sj (by decide)).trans (rfl)))) ?_
  refine go_istore_n (lv' := [(1, vi (S 0 2)), (0, vr r)]) X d_Model_erase_9 rfl (by decide) rfl ?_
  refine go_aload_n X d_Model_erase_10 rfl rfl ?_
  refine go_iconst (v := 0) X d_Model_erase_11 ?_
  refine go_put (x := 0) (v := vi 0) X f_Model_131 md1.1.1 rfl d_Model_erase_12 rfl rfl rfl ?_
  have md3 : mq sh M0 (m_s M2 r 2 0) r (m_s (m_s S 0 0 0) 0 2 0) := md1.put0 (by decide) ((rg_S (by decide) (by decide) (by decide)))
  generalize m_s M2 r 2 0 = M4 at md3 ⊢
  refine go_iload_n X d_Model_erase_15 rfl rfl ?_
  exact go_iret X d_Model_erase_16 rfl rfl (by decide) (by decide) (ret_i hF (rI_eq (md1.gS 2 (by decide) (by decide)) ((m_sj (by decide)).trans (rfl))) md3)
def A_here_j24 (N : Nat) (y0 : Int) (S : s_M) : rO := some (y0, S)
theorem A_here_j24_e (N : Nat) (y0 : Int) (S : s_M) : A_here_j24 N y0 S = (some (y0, S)) := rfl
def A_here (N : Nat) (S : s_M) : rO := if (S 0 17) < (S 0 2) then (chk (0 ≤ (S 0 17) ∧ (S 0 17) < 320) <| A_here_j24 N (S 2 (S 0 17)) S) else (A_here_j24 N (-1) S)
theorem A_here_e (N : Nat) (S : s_M) : A_here N S = (if (S 0 17) < (S 0 2) then (chk (0 ≤ (S 0 17) ∧ (S 0 17) < 320) <| A_here_j24 N (S 2 (S 0 17)) S) else (A_here_j24 N (-1) S)) := rfl
set_option maxHeartbeats 4000000 in
set_option maxRecDepth 100000 in
theorem a_here (l : Launch) (D : va_G) {sh : s_S} {M0 M : s_M} {sz r  : Int} {N : Nat} {S S0 : s_M} {v0 : Int} (h : mq sh M0 M r S) (hF : A_here N S = some (v0, S0)) : Sp l D y_Model_here prog_14_method_20_code 1 (some .int) 1 0 0 [vr r] sh M sz (fun v' sh' M' sz' => v' = some (vi v0) ∧ sh' = sh ∧ sz' = sz ∧ rI v0 ∧ mq sh M0 M' r S0) := by
  have hr0 := h.1.2.1
  refine Sp.ofGo (own := "CiteForgeModel") (nm := "here") (by decide) rfl rfl (Nat.le_of_ble_eq_true rfl) (lv := [(0, vr r)]) rfl ?_
  intro g X
  have hJ24 : ∀ (y0 : Int) (S1 M1 : s_M), rI y0 → mq sh M0 M1 r S1 → A_here_j24 N y0 S1 = some (v0, S0) → Go g 0 0 sh M1 sz 24 [(0, vr r)] [vi y0] := by
    intro y0 S1 M1 hy0 hm hF
    rw [A_here_j24_e] at hF
    exact go_iret X d_Model_here_24 rfl rfl (by decide) (by decide) (ret_i hF hy0 hm)
  rw [A_here_e] at hF
  refine go_aload_n X d_Model_here_0 rfl rfl ?_
  refine go_get (v := vi (S 0 17)) X f_Model_134 h.1.1 rfl d_Model_here_1 (congrArg (s_v .int) ((h.s 17).trans (rfl))) ?_
  refine go_aload_n X d_Model_here_4 rfl rfl ?_
  refine go_get (v := vi (S 0 2)) X f_Model_131 h.1.1 rfl d_Model_here_5 (congrArg (s_v .int) ((h.s 2).trans (rfl))) ?_
  refine go_icmp_ge (tgt := 23) X d_Model_here_8 rfl (h.gS 17 (by decide) (by decide)) (h.gS 2 (by decide) (by decide)) (fun hq1 => ?_) (fun hq1 => ?_)
  · skip
    have hF2 := if_f hF (Int.not_lt.mpr hq1)
    refine go_iconst (v := (-1)) X d_Model_here_23 ?_
    refine go_lv (lv' := [(0, vr r)]) X [0] rfl ?_
    exact hJ24 (-1) S M (by decide) h hF2
  · skip
    have hF3 := if_t hF hq1
    refine go_aload_n X d_Model_here_11 rfl rfl ?_
    refine go_get (v := vr (r + 2)) X f_Model_13 h.1.1 rfl d_Model_here_12 (s_varr (h.1.2.2 1 _ rfl).2 (by omega)) ?_
    refine go_aload_n X d_Model_here_15 rfl rfl ?_
    refine go_get (v := vi (S 0 17)) X f_Model_134 h.1.1 rfl d_Model_here_16 (congrArg (s_v .int) ((h.s 17).trans (rfl))) ?_
    obtain ⟨hc4, hF5⟩ := chk_t hF3
    refine go_iald X (h.1.2.2 1 _ rfl).1 (by decide) hc4 d_Model_here_19 ?_
    refine go_top (v' := vi (S 2 (S 0 17))) X (congrArg (fun q => vi q) ((h.a (by decide) (S 0 17)).trans (rfl))) ?_
    refine go_goto (tgt := 24) X d_Model_here_20 rfl ?_
    refine go_lv (lv' := [(0, vr r)]) X [0] rfl ?_
    exact hJ24 (S 2 (S 0 17)) S M (h.gA (by decide) (S 0 17)) h hF5
def A_blanks_j18 (N : Nat) (k0 : s_M → rO) (S : s_M) : rO := chk (rI ((S 0 17) + 1)) <| k0  (m_s S 0 17 ((S 0 17) + 1))
theorem A_blanks_j18_e (N : Nat) (k0 : s_M → rO) (S : s_M) : A_blanks_j18 N k0 S = (chk (rI ((S 0 17) + 1)) <| k0  (m_s S 0 17 ((S 0 17) + 1))) := rfl
def A_blanks_l0 (N : Nat) : Nat → s_M → rO
  | 0, _ => none
  | n + 1, S => bnd (A_here N S) fun v5 S6 => if v5 = 32 then (A_blanks_j18 N (A_blanks_l0 N n)  S6) else (bnd (A_here N S6) fun v15 S16 => if v15 = 10 then (A_blanks_j18 N (A_blanks_l0 N n)  S16) else (some (0, S16)))
theorem A_blanks_l0_e (N : Nat) (n : Nat) (S : s_M) : A_blanks_l0 N (n + 1) S = (bnd (A_here N S) fun v5 S6 => if v5 = 32 then (A_blanks_j18 N (A_blanks_l0 N n)  S6) else (bnd (A_here N S6) fun v15 S16 => if v15 = 10 then (A_blanks_j18 N (A_blanks_l0 N n)  S16) else (some (0, S16)))) := rfl
def A_blanks (N : Nat) (S : s_M) : rO := A_blanks_l0 N N  S
theorem A_blanks_e (N : Nat) (S : s_M) : A_blanks N S = (A_blanks_l0 N N  S) := rfl
set_option maxHeartbeats 4000000 in
set_option maxRecDepth 100000 in
theorem a_blanks (l : Launch) (D : va_G) {sh : s_S} {M0 M : s_M} {sz r  : Int} {N : Nat} {S S0 : s_M} {v0 : Int} (h : mq sh M0 M r S) (hF : A_blanks N S = some (v0, S0)) : Sp l D y_Model_blanks prog_14_method_21_code 1 none 2 0 0 [vr r] sh M sz (fun v' sh' M' sz' => v' = none ∧ sh' = sh ∧ sz' = sz ∧ mq sh M0 M' r S0) := by
  have hr0 := h.1.2.1
  refine Sp.ofGo (own := "CiteForgeModel") (nm := "blanks") (by decide) rfl rfl (Nat.le_of_ble_eq_true rfl) (lv := [(0, vr r)]) rfl ?_
  intro g X
  have hL0 : ∀ (n0 : Nat) (S1 M1 : s_M), mq sh M0 M1 r S1 → A_blanks_l0 N n0 S1 = some (v0, S0) → Go g 0 0 sh M1 sz 0 [(0, vr r)] [] := by
    intro n0
    induction n0 with
    | zero => intro S1 M1 hm hF; cases hF
    | succ n0 ih0 =>
      have hJ18 : ∀ (S1 M1 : s_M), mq sh M0 M1 r S1 → A_blanks_j18 N (A_blanks_l0 N n0) S1 = some (v0, S0) → Go g 0 0 sh M1 sz 18 [(0, vr r)] [] := by
        intro S1 M1 hm hF
        rw [A_blanks_j18_e] at hF
        refine go_aload_n X d_Model_blanks_18 rfl rfl ?_
        refine go_dup X d_Model_blanks_19 rfl ?_
        refine go_get (v := vi (S1 0 17)) X f_Model_134 hm.1.1 rfl d_Model_blanks_20 (congrArg (s_v .int) ((hm.s 17).trans (rfl))) ?_
        refine go_iconst (v := 1) X d_Model_blanks_23 ?_
        refine go_iadd X d_Model_blanks_24 ?_
        obtain ⟨hc1, hF2⟩ := chk_t hF
        refine go_put (x := ((S1 0 17) + 1)) (v := vi ((S1 0 17) + 1)) X f_Model_134 hm.1.1 rfl d_Model_blanks_25 rfl rfl rfl ?_
        have md3 : mq sh M0 (m_s M1 r 17 ((S1 0 17) + 1)) r (m_s S1 0 17 ((S1 0 17) + 1)) := hm.put0 (by decide) ((rg_S (by decide) (by decide) hc1))
        generalize m_s M1 r 17 ((S1 0 17) + 1) = M4 at md3 ⊢
        refine go_goto (tgt := 0) X d_Model_blanks_28 rfl ?_
        refine go_lv (lv' := [(0, vr r)]) X [0] rfl ?_
        exact ih0  (m_s S1 0 17 ((S1 0 17) + 1)) M4  md3 hF2
      intro S1 M1 hm hF
      rw [A_blanks_l0_e] at hF
      refine go_aload_n X d_Model_blanks_0 rfl rfl ?_
      obtain ⟨v5, S6, hG7, hF8⟩ := bnd_t hF
      refine go_cV (st2 := []) (r := []) X k_Model_136 (a_here l D hm hG7) hm.1.1 rfl rfl (by decide) (Nat.le_of_ble_eq_true rfl) d_Model_blanks_1 (by decide) (by decide) (fun v' sh' M9 sz' hpp => ?_)
      obtain ⟨e1, e2, e3, hv11, md10⟩ := hpp
      subst e1
      rw [e2, e3]
      clear e2 e3
      show Go g 0 0 sh M9 sz 4 [(0, vr r)] [vi v5]
      refine go_bipush (v := 32) X d_Model_blanks_4 (by decide) ?_
      refine go_icmp_eq (tgt := 18) X d_Model_blanks_6 rfl hv11 (by decide) (fun hq12 => ?_) (fun hq12 => ?_)
      · skip
        have hF13 := if_t hF8 hq12
        refine go_lv (lv' := [(0, vr r)]) X [0] rfl ?_
        exact hJ18  S6 M9  md10 hF13
      · skip
        have hF14 := if_f hF8 hq12
        refine go_aload_n X d_Model_blanks_9 rfl rfl ?_
        obtain ⟨v15, S16, hG17, hF18⟩ := bnd_t hF14
        refine go_cV (st2 := []) (r := []) X k_Model_136 (a_here l D md10 hG17) md10.1.1 rfl rfl (by decide) (Nat.le_of_ble_eq_true rfl) d_Model_blanks_10 (by decide) (by decide) (fun v' sh' M19 sz' hpp => ?_)
        obtain ⟨e1, e2, e3, hv21, md20⟩ := hpp
        subst e1
        rw [e2, e3]
        clear e2 e3
        show Go g 0 0 sh M19 sz 13 [(0, vr r)] [vi v15]
        refine go_bipush (v := 10) X d_Model_blanks_13 (by decide) ?_
        refine go_icmp_ne (tgt := 31) X d_Model_blanks_15 rfl hv21 (by decide) (fun hq22 => ?_) (fun hq22 => ?_)
        · skip
          have hF23 := if_f hF18 hq22
          exact go_vret X d_Model_blanks_31 rfl (by decide) (by decide) (ret_v hF23 md20)
        · skip
          have hF24 := if_t hF18 hq22
          refine go_lv (lv' := [(0, vr r)]) X [0] rfl ?_
          exact hJ18  S16 M19  md20 hF24
  rw [A_blanks_e] at hF
  refine go_lv (lv' := [(0, vr r)]) X [0] rfl ?_
  exact hL0 N  S M  h hF
def A_at (N : Nat) (x1 x2 : Int) (S : s_M) : rO := chk (rI (60 * x1)) <| chk (rI ((60 * x1) + x2)) <| chk (0 ≤ ((60 * x1) + x2) ∧ ((60 * x1) + x2) < 5100) <| some (S 4 ((60 * x1) + x2), S)
theorem A_at_e (N : Nat) (x1 x2 : Int) (S : s_M) : A_at N x1 x2 S = (chk (rI (60 * x1)) <| chk (rI ((60 * x1) + x2)) <| chk (0 ≤ ((60 * x1) + x2) ∧ ((60 * x1) + x2) < 5100) <| some (S 4 ((60 * x1) + x2), S)) := rfl
set_option maxHeartbeats 4000000 in
set_option maxRecDepth 100000 in
theorem a_at (l : Launch) (D : va_G) {sh : s_S} {M0 M : s_M} {sz r x1 x2 : Int} {N : Nat} {S S0 : s_M} {v0 : Int} (h : mq sh M0 M r S) (hx1 : rI x1) (hx2 : rI x2) (hF : A_at N x1 x2 S = some (v0, S0)) : Sp l D y_Model_at prog_14_method_6_code 3 (some .int) 1 0 0 [vr r, vi x1, vi x2] sh M sz (fun v' sh' M' sz' => v' = some (vi v0) ∧ sh' = sh ∧ sz' = sz ∧ rI v0 ∧ mq sh M0 M' r S0) := by
  have hr0 := h.1.2.1
  refine Sp.ofGo (own := "CiteForgeModel") (nm := "at") (by decide) rfl rfl (Nat.le_of_ble_eq_true rfl) (lv := [(0, vr r), (1, vi x1), (2, vi x2)]) rfl ?_
  intro g X
  rw [A_at_e] at hF
  refine go_aload_n X d_Model_at_0 rfl rfl ?_
  refine go_get (v := vr (r + 4)) X f_Model_19 h.1.1 rfl d_Model_at_1 (s_varr (h.1.2.2 3 _ rfl).2 (by omega)) ?_
  refine go_bipush (v := 60) X d_Model_at_4 (by decide) ?_
  refine go_iload_n X d_Model_at_6 rfl rfl ?_
  refine go_imul X d_Model_at_7 ?_
  obtain ⟨hc1, hF2⟩ := chk_t hF
  refine go_iload_n X d_Model_at_8 rfl rfl ?_
  refine go_iadd X d_Model_at_9 ?_
  obtain ⟨hc3, hF4⟩ := chk_t hF2
  obtain ⟨hc5, hF6⟩ := chk_t hF4
  refine go_iald X (h.1.2.2 3 _ rfl).1 (by decide) hc5 d_Model_at_10 ?_
  refine go_top (v' := vi (S 4 ((60 * x1) + x2))) X (congrArg (fun q => vi q) ((h.a (by decide) ((60 * x1) + x2)).trans (rfl))) ?_
  exact go_iret X d_Model_at_11 rfl rfl (by decide) (by decide) (ret_i hF6 (h.gA (by decide) ((60 * x1) + x2)) h)
def A_copy_l14 (N : Nat) : Nat → Int → Int → Int → s_M → rO
  | 0, _, _, _, _ => none
  | n + 1, x1, x2, x3, S => chk (0 ≤ x1 ∧ x1 < 85) <| if x3 < (S 3 x1) then (chk (rI (60 * x2)) <| chk (rI ((60 * x2) + x3)) <| bnd (A_at N x1 x3 S) fun v10 S11 => chk (0 ≤ ((60 * x2) + x3) ∧ ((60 * x2) + x3) < 5100) <| chk (rI (x3 + 1)) <| (A_copy_l14 N n) x1 x2 (x3 + 1) (m_s S11 4 ((60 * x2) + x3) v10)) else (some (0, S))
theorem A_copy_l14_e (N : Nat) (n : Nat) (x1 x2 x3 : Int) (S : s_M) : A_copy_l14 N (n + 1) x1 x2 x3 S = (chk (0 ≤ x1 ∧ x1 < 85) <| if x3 < (S 3 x1) then (chk (rI (60 * x2)) <| chk (rI ((60 * x2) + x3)) <| bnd (A_at N x1 x3 S) fun v10 S11 => chk (0 ≤ ((60 * x2) + x3) ∧ ((60 * x2) + x3) < 5100) <| chk (rI (x3 + 1)) <| (A_copy_l14 N n) x1 x2 (x3 + 1) (m_s S11 4 ((60 * x2) + x3) v10)) else (some (0, S))) := rfl
def A_copy (N : Nat) (x1 x2 : Int) (S : s_M) : rO := chk (0 ≤ x1 ∧ x1 < 85) <| chk (0 ≤ x2 ∧ x2 < 85) <| A_copy_l14 N N x1 x2 0 (m_s S 3 x2 (S 3 x1))
theorem A_copy_e (N : Nat) (x1 x2 : Int) (S : s_M) : A_copy N x1 x2 S = (chk (0 ≤ x1 ∧ x1 < 85) <| chk (0 ≤ x2 ∧ x2 < 85) <| A_copy_l14 N N x1 x2 0 (m_s S 3 x2 (S 3 x1))) := rfl
set_option maxHeartbeats 4000000 in
set_option maxRecDepth 100000 in
theorem a_copy (l : Launch) (D : va_G) {sh : s_S} {M0 M : s_M} {sz r x1 x2 : Int} {N : Nat} {S S0 : s_M} {v0 : Int} (h : mq sh M0 M r S) (hx1 : rI x1) (hx2 : rI x2) (hF : A_copy N x1 x2 S = some (v0, S0)) : Sp l D y_Model_copy prog_14_method_9_code 4 none 2 0 0 [vr r, vi x1, vi x2] sh M sz (fun v' sh' M' sz' => v' = none ∧ sh' = sh ∧ sz' = sz ∧ mq sh M0 M' r S0) := by
  have hr0 := h.1.2.1
  refine Sp.ofGo (own := "CiteForgeModel") (nm := "copy") (by decide) rfl rfl (Nat.le_of_ble_eq_true rfl) (lv := [(0, vr r), (1, vi x1), (2, vi x2)]) rfl ?_
  intro g X
  have hL14 : ∀ (n14 : Nat) (x1 x2 x3 : Int) (S1 M1 : s_M), rI x1 → rI x2 → rI x3 → mq sh M0 M1 r S1 → A_copy_l14 N n14 x1 x2 x3 S1 = some (v0, S0) → Go g 0 0 sh M1 sz 14 [(0, vr r), (1, vi x1), (2, vi x2), (3, vi x3)] [] := by
    intro n14
    induction n14 with
    | zero => intro x1 x2 x3 S1 M1 hx1 hx2 hx3 hm hF; cases hF
    | succ n14 ih14 =>
      intro x1 x2 x3 S1 M1 hx1 hx2 hx3 hm hF
      rw [A_copy_l14_e] at hF
      refine go_iload_n X d_Model_copy_14 rfl rfl ?_
      refine go_aload_n X d_Model_copy_15 rfl rfl ?_
      refine go_get (v := vr (r + 3)) X f_Model_16 hm.1.1 rfl d_Model_copy_16 (s_varr (hm.1.2.2 2 _ rfl).2 (by omega)) ?_
      refine go_iload_n X d_Model_copy_19 rfl rfl ?_
      obtain ⟨hc1, hF2⟩ := chk_t hF
      refine go_iald X (hm.1.2.2 2 _ rfl).1 (by decide) hc1 d_Model_copy_20 ?_
      refine go_top (v' := vi (S1 3 x1)) X (congrArg (fun q => vi q) ((hm.a (by decide) x1).trans (rfl))) ?_
      refine go_icmp_ge (tgt := 47) X d_Model_copy_21 rfl hx3 (hm.gA (by decide) x1) (fun hq3 => ?_) (fun hq3 => ?_)
      · skip
        have hF4 := if_f hF2 (Int.not_lt.mpr hq3)
        exact go_vret X d_Model_copy_47 rfl (by decide) (by decide) (ret_v hF4 hm)
      · skip
        have hF5 := if_t hF2 hq3
        refine go_aload_n X d_Model_copy_24 rfl rfl ?_
        refine go_get (v := vr (r + 4)) X f_Model_19 hm.1.1 rfl d_Model_copy_25 (s_varr (hm.1.2.2 3 _ rfl).2 (by omega)) ?_
        refine go_bipush (v := 60) X d_Model_copy_28 (by decide) ?_
        refine go_iload_n X d_Model_copy_30 rfl rfl ?_
        refine go_imul X d_Model_copy_31 ?_
        obtain ⟨hc6, hF7⟩ := chk_t hF5
        refine go_iload_n X d_Model_copy_32 rfl rfl ?_
        refine go_iadd X d_Model_copy_33 ?_
        obtain ⟨hc8, hF9⟩ := chk_t hF7
        refine go_aload_n X d_Model_copy_34 rfl rfl ?_
        refine go_iload_n X d_Model_copy_35 rfl rfl ?_
        refine go_iload_n X d_Model_copy_36 rfl rfl ?_
        obtain ⟨v10, S11, hG12, hF13⟩ := bnd_t hF9
        refine go_cV (st2 := []) (r := [vi ((60 * x2) + x3), vr (r + 4)]) X k_Model_99 (a_at l D hm hx1 hx3 hG12) hm.1.1 rfl rfl (by decide) (Nat.le_of_ble_eq_true rfl) d_Model_copy_37 (by decide) (by decide) (fun v' sh' M14 sz' hpp => ?_)
        obtain ⟨e1, e2, e3, hv16, md15⟩ := hpp
        subst e1
        rw [e2, e3]
        clear e2 e3
        show Go g 0 0 sh M14 sz 40 [(0, vr r), (1, vi x1), (2, vi x2), (3, vi x3)] [vi v10, vi ((60 * x2) + x3), vr (r + 4)]
        obtain ⟨hc17, hF18⟩ := chk_t hF13
        refine go_iast (x := v10) X (md15.1.2.2 3 _ rfl).1 (by decide) hc17 d_Model_copy_40 ?_
        have md19 : mq sh M0 (m_s M14 (r + 4) ((60 * x2) + x3) v10) r (m_s S11 4 ((60 * x2) + x3) v10) := md15.put (by decide) ((rg_A (by decide) hv16))
        generalize m_s M14 (r + 4) ((60 * x2) + x3) v10 = M20 at md19 ⊢
        obtain ⟨hc21, hF22⟩ := chk_t hF18
        refine go_iinc (v := 1) (x := x3) (lv' := [(3, vi (x3 + 1)), (0, vr r), (1, vi x1), (2, vi x2)]) X d_Model_copy_41 rfl (by decide) rfl ?_
        refine go_goto (tgt := 14) X d_Model_copy_44 rfl ?_
        refine go_lv (lv' := [(0, vr r), (1, vi x1), (2, vi x2), (3, vi (x3 + 1))]) X [1, 2, 3, 0] rfl ?_
        exact ih14 x1 x2 (x3 + 1) (m_s S11 4 ((60 * x2) + x3) v10) M20 hx1 hx2 hc21 md19 hF22
  rw [A_copy_e] at hF
  refine go_aload_n X d_Model_copy_0 rfl rfl ?_
  refine go_get (v := vr (r + 3)) X f_Model_16 h.1.1 rfl d_Model_copy_1 (s_varr (h.1.2.2 2 _ rfl).2 (by omega)) ?_
  refine go_iload_n X d_Model_copy_4 rfl rfl ?_
  refine go_aload_n X d_Model_copy_5 rfl rfl ?_
  refine go_get (v := vr (r + 3)) X f_Model_16 h.1.1 rfl d_Model_copy_6 (s_varr (h.1.2.2 2 _ rfl).2 (by omega)) ?_
  refine go_iload_n X d_Model_copy_9 rfl rfl ?_
  obtain ⟨hc23, hF24⟩ := chk_t hF
  refine go_iald X (h.1.2.2 2 _ rfl).1 (by decide) hc23 d_Model_copy_10 ?_
  refine go_top (v' := vi (S 3 x1)) X (congrArg (fun q => vi q) ((h.a (by decide) x1).trans (rfl))) ?_
  obtain ⟨hc25, hF26⟩ := chk_t hF24
  refine go_iast (x := (S 3 x1)) X (h.1.2.2 2 _ rfl).1 (by decide) hc25 d_Model_copy_11 ?_
  have md27 : mq sh M0 (m_s M (r + 3) x2 (S 3 x1)) r (m_s S 3 x2 (S 3 x1)) := h.put (by decide) ((rg_A (by decide) (h.gA (by decide) x1)))
  generalize m_s M (r + 3) x2 (S 3 x1) = M28 at md27 ⊢
  refine go_iconst (v := 0) X d_Model_copy_12 ?_
  refine go_istore_n (lv' := [(3, vi 0), (0, vr r), (1, vi x1), (2, vi x2)]) X d_Model_copy_13 rfl (by decide) rfl ?_
  refine go_lv (lv' := [(0, vr r), (1, vi x1), (2, vi x2), (3, vi 0)]) X [1, 2, 3, 0] rfl ?_
  exact hL14 N x1 x2 0 (m_s S 3 x2 (S 3 x1)) M28 hx1 hx2 (by decide) md27 hF26
def A_warn (N : Nat) (x1 : Int) (S : s_M) : rO := chk (0 ≤ x1 ∧ x1 < 10) <| chk (0 ≤ x1 ∧ x1 < 10) <| some (0, m_s S 1 x1 (wi32 ((S 1 x1) + 1)))
theorem A_warn_e (N : Nat) (x1 : Int) (S : s_M) : A_warn N x1 S = (chk (0 ≤ x1 ∧ x1 < 10) <| chk (0 ≤ x1 ∧ x1 < 10) <| some (0, m_s S 1 x1 (wi32 ((S 1 x1) + 1)))) := rfl
set_option maxHeartbeats 4000000 in
set_option maxRecDepth 100000 in
theorem a_warn (l : Launch) (D : va_G) {sh : s_S} {M0 M : s_M} {sz r x1 : Int} {N : Nat} {S S0 : s_M} {v0 : Int} (h : mq sh M0 M r S) (hx1 : rI x1) (hF : A_warn N x1 S = some (v0, S0)) : Sp l D y_Model_warn prog_14_method_5_code 2 none 1 0 0 [vr r, vi x1] sh M sz (fun v' sh' M' sz' => v' = none ∧ sh' = sh ∧ sz' = sz ∧ mq sh M0 M' r S0) := by
  have hr0 := h.1.2.1
  refine Sp.ofGo (own := "CiteForgeModel") (nm := "warn") (by decide) rfl rfl (Nat.le_of_ble_eq_true rfl) (lv := [(0, vr r), (1, vi x1)]) rfl ?_
  intro g X
  rw [A_warn_e] at hF
  refine go_aload_n X d_Model_warn_0 rfl rfl ?_
  refine go_get (v := vr (r + 1)) X f_Model_7 h.1.1 rfl d_Model_warn_1 (s_varr (h.1.2.2 0 _ rfl).2 (by omega)) ?_
  refine go_iload_n X d_Model_warn_4 rfl rfl ?_
  refine go_dup2 X d_Model_warn_5 rfl rfl ?_
  obtain ⟨hc1, hF2⟩ := chk_t hF
  refine go_iald X (h.1.2.2 0 _ rfl).1 (by decide) hc1 d_Model_warn_6 ?_
  refine go_top (v' := vi (S 1 x1)) X (congrArg (fun q => vi q) ((h.a (by decide) x1).trans (rfl))) ?_
  refine go_iconst (v := 1) X d_Model_warn_7 ?_
  refine go_iadd X d_Model_warn_8 ?_
  refine go_top (v' := vi (wi32 ((S 1 x1) + 1))) X (wi32_vi _) ?_
  obtain ⟨hc3, hF4⟩ := chk_t hF2
  refine go_iast (x := (wi32 ((S 1 x1) + 1))) X (h.1.2.2 0 _ rfl).1 (by decide) hc3 d_Model_warn_9 ?_
  have md5 : mq sh M0 (m_s M (r + 1) x1 (wi32 ((S 1 x1) + 1))) r (m_s S 1 x1 (wi32 ((S 1 x1) + 1))) := h.put (by decide) ((rg_A (by decide) (wi32_rng _)))
  generalize m_s M (r + 1) x1 (wi32 ((S 1 x1) + 1)) = M6 at md5 ⊢
  exact go_vret X d_Model_warn_10 rfl (by decide) (by decide) (ret_v hF4 md5)
def A_other_j22 (N : Nat) (S : s_M) : rO := some (0, m_s S 0 18 1)
theorem A_other_j22_e (N : Nat) (S : s_M) : A_other_j22 N S = (some (0, m_s S 0 18 1)) := rfl
def A_other (N : Nat) (S : s_M) : rO := if (S 0 18) = 0 then (bnd (A_warn N 1 S) fun v6 S7 => chk (rI ((S7 0 21) + 1)) <| A_other_j22 N  (m_s S7 0 21 ((S7 0 21) + 1))) else (A_other_j22 N  S)
theorem A_other_e (N : Nat) (S : s_M) : A_other N S = (if (S 0 18) = 0 then (bnd (A_warn N 1 S) fun v6 S7 => chk (rI ((S7 0 21) + 1)) <| A_other_j22 N  (m_s S7 0 21 ((S7 0 21) + 1))) else (A_other_j22 N  S)) := rfl
set_option maxHeartbeats 4000000 in
set_option maxRecDepth 100000 in
theorem a_other (l : Launch) (D : va_G) {sh : s_S} {M0 M : s_M} {sz r  : Int} {N : Nat} {S S0 : s_M} {v0 : Int} (h : mq sh M0 M r S) (hF : A_other N S = some (v0, S0)) : Sp l D y_Model_other prog_14_method_22_code 1 none 2 0 0 [vr r] sh M sz (fun v' sh' M' sz' => v' = none ∧ sh' = sh ∧ sz' = sz ∧ mq sh M0 M' r S0) := by
  have hr0 := h.1.2.1
  refine Sp.ofGo (own := "CiteForgeModel") (nm := "other") (by decide) rfl rfl (Nat.le_of_ble_eq_true rfl) (lv := [(0, vr r)]) rfl ?_
  intro g X
  have hJ22 : ∀ (S1 M1 : s_M), mq sh M0 M1 r S1 → A_other_j22 N S1 = some (v0, S0) → Go g 0 0 sh M1 sz 22 [(0, vr r)] [] := by
    intro S1 M1 hm hF
    rw [A_other_j22_e] at hF
    refine go_aload_n X d_Model_other_22 rfl rfl ?_
    refine go_iconst (v := 1) X d_Model_other_23 ?_
    refine go_put (x := 1) (v := vi 1) X f_Model_140 hm.1.1 rfl d_Model_other_24 rfl (n_nz (by decide)) (n_fz (by decide)) ?_
    have md1 : mq sh M0 (m_s M1 r 18 1) r (m_s S1 0 18 1) := hm.put0 (by decide) ((rg_B (by decide) (by decide) (by decide)))
    generalize m_s M1 r 18 1 = M2 at md1 ⊢
    exact go_vret X d_Model_other_27 rfl (by decide) (by decide) (ret_v hF md1)
  rw [A_other_e] at hF
  refine go_aload_n X d_Model_other_0 rfl rfl ?_
  refine go_get (v := vi (S 0 18)) X f_Model_140 h.1.1 rfl d_Model_other_1 (congrArg (s_v .boolean) ((h.s 18).trans (rfl))) ?_
  refine go_if_ne (tgt := 22) X d_Model_other_4 rfl (rI_z (h.gB 18 (by decide) (by decide))) (fun hq3 => ?_) (fun hq3 => ?_)
  · skip
    have hF4 := if_f hF hq3
    refine go_lv (lv' := [(0, vr r)]) X [0] rfl ?_
    exact hJ22  S M  h hF4
  · skip
    have hF5 := if_t hF hq3
    refine go_aload_n X d_Model_other_7 rfl rfl ?_
    refine go_iconst (v := 1) X d_Model_other_8 ?_
    obtain ⟨v6, S7, hG8, hF9⟩ := bnd_t hF5
    refine go_cV (st2 := []) (r := []) X k_Model_144 (a_warn l D h (by decide) hG8) h.1.1 rfl rfl (by decide) (Nat.le_of_ble_eq_true rfl) d_Model_other_9 (by decide) (by decide) (fun v' sh' M10 sz' hpp => ?_)
    obtain ⟨e1, e2, e3, md11⟩ := hpp
    subst e1
    rw [e2, e3]
    clear e2 e3
    show Go g 0 0 sh M10 sz 12 [(0, vr r)] []
    refine go_aload_n X d_Model_other_12 rfl rfl ?_
    refine go_dup X d_Model_other_13 rfl ?_
    refine go_get (v := vi (S7 0 21)) X f_Model_147 md11.1.1 rfl d_Model_other_14 (congrArg (s_v .int) ((md11.s 21).trans (rfl))) ?_
    refine go_iconst (v := 1) X d_Model_other_17 ?_
    refine go_iadd X d_Model_other_18 ?_
    obtain ⟨hc13, hF14⟩ := chk_t hF9
    refine go_put (x := ((S7 0 21) + 1)) (v := vi ((S7 0 21) + 1)) X f_Model_147 md11.1.1 rfl d_Model_other_19 rfl rfl rfl ?_
    have md15 : mq sh M0 (m_s M10 r 21 ((S7 0 21) + 1)) r (m_s S7 0 21 ((S7 0 21) + 1)) := md11.put0 (by decide) ((rg_S (by decide) (by decide) hc13))
    generalize m_s M10 r 21 ((S7 0 21) + 1) = M16 at md15 ⊢
    refine go_lv (lv' := [(0, vr r)]) X [0] rfl ?_
    exact hJ22  (m_s S7 0 21 ((S7 0 21) + 1)) M16  md15 hF14
def A_expect_j37 (N : Nat) (S : s_M) : rO := some (0, S)
theorem A_expect_j37_e (N : Nat) (S : s_M) : A_expect_j37 N S = (some (0, S)) := rfl
def A_expect (N : Nat) (x1 : Int) (S : s_M) : rO := if (S 0 18) = 0 then (bnd (A_blanks N S) fun v3 S4 => bnd (A_here N S4) fun v10 S11 => if v10 = x1 then (chk (rI ((S11 0 17) + 1)) <| A_expect_j37 N  (m_s S11 0 17 ((S11 0 17) + 1))) else (bnd (A_other N S11) fun v19 S20 => A_expect_j37 N  S20)) else (some (0, S))
theorem A_expect_e (N : Nat) (x1 : Int) (S : s_M) : A_expect N x1 S = (if (S 0 18) = 0 then (bnd (A_blanks N S) fun v3 S4 => bnd (A_here N S4) fun v10 S11 => if v10 = x1 then (chk (rI ((S11 0 17) + 1)) <| A_expect_j37 N  (m_s S11 0 17 ((S11 0 17) + 1))) else (bnd (A_other N S11) fun v19 S20 => A_expect_j37 N  S20)) else (some (0, S))) := rfl
set_option maxHeartbeats 4000000 in
set_option maxRecDepth 100000 in
theorem a_expect (l : Launch) (D : va_G) {sh : s_S} {M0 M : s_M} {sz r x1 : Int} {N : Nat} {S S0 : s_M} {v0 : Int} (h : mq sh M0 M r S) (hx1 : rI x1) (hF : A_expect N x1 S = some (v0, S0)) : Sp l D y_Model_expect prog_14_method_23_code 2 none 3 0 0 [vr r, vi x1] sh M sz (fun v' sh' M' sz' => v' = none ∧ sh' = sh ∧ sz' = sz ∧ mq sh M0 M' r S0) := by
  have hr0 := h.1.2.1
  refine Sp.ofGo (own := "CiteForgeModel") (nm := "expect") (by decide) rfl rfl (Nat.le_of_ble_eq_true rfl) (lv := [(0, vr r), (1, vi x1)]) rfl ?_
  intro g X
  have hJ37 : ∀ (S1 M1 : s_M), mq sh M0 M1 r S1 → A_expect_j37 N S1 = some (v0, S0) → Go g 0 0 sh M1 sz 37 [(0, vr r)] [] := by
    intro S1 M1 hm hF
    rw [A_expect_j37_e] at hF
    exact go_vret X d_Model_expect_37 rfl (by decide) (by decide) (ret_v hF hm)
  rw [A_expect_e] at hF
  refine go_aload_n X d_Model_expect_0 rfl rfl ?_
  refine go_get (v := vi (S 0 18)) X f_Model_140 h.1.1 rfl d_Model_expect_1 (congrArg (s_v .boolean) ((h.s 18).trans (rfl))) ?_
  refine go_if_eq (tgt := 8) X d_Model_expect_4 rfl (rI_z (h.gB 18 (by decide) (by decide))) (fun hq1 => ?_) (fun hq1 => ?_)
  · skip
    have hF2 := if_t hF hq1
    refine go_aload_n X d_Model_expect_8 rfl rfl ?_
    obtain ⟨v3, S4, hG5, hF6⟩ := bnd_t hF2
    refine go_cV (st2 := []) (r := []) X k_Model_150 (a_blanks l D h hG5) h.1.1 rfl rfl (by decide) (Nat.le_of_ble_eq_true rfl) d_Model_expect_9 (by decide) (by decide) (fun v' sh' M7 sz' hpp => ?_)
    obtain ⟨e1, e2, e3, md8⟩ := hpp
    subst e1
    rw [e2, e3]
    clear e2 e3
    show Go g 0 0 sh M7 sz 12 [(0, vr r), (1, vi x1)] []
    refine go_aload_n X d_Model_expect_12 rfl rfl ?_
    obtain ⟨v10, S11, hG12, hF13⟩ := bnd_t hF6
    refine go_cV (st2 := []) (r := []) X k_Model_136 (a_here l D md8 hG12) md8.1.1 rfl rfl (by decide) (Nat.le_of_ble_eq_true rfl) d_Model_expect_13 (by decide) (by decide) (fun v' sh' M14 sz' hpp => ?_)
    obtain ⟨e1, e2, e3, hv16, md15⟩ := hpp
    subst e1
    rw [e2, e3]
    clear e2 e3
    show Go g 0 0 sh M14 sz 16 [(0, vr r), (1, vi x1)] [vi v10]
    refine go_iload_n X d_Model_expect_16 rfl rfl ?_
    refine go_icmp_ne (tgt := 33) X d_Model_expect_17 rfl hv16 hx1 (fun hq17 => ?_) (fun hq17 => ?_)
    · skip
      have hF18 := if_f hF13 hq17
      refine go_aload_n X d_Model_expect_33 rfl rfl ?_
      obtain ⟨v19, S20, hG21, hF22⟩ := bnd_t hF18
      refine go_cV (st2 := []) (r := []) X k_Model_153 (a_other l D md15 hG21) md15.1.1 rfl rfl (by decide) (Nat.le_of_ble_eq_true rfl) d_Model_expect_34 (by decide) (by decide) (fun v' sh' M23 sz' hpp => ?_)
      obtain ⟨e1, e2, e3, md24⟩ := hpp
      subst e1
      rw [e2, e3]
      clear e2 e3
      show Go g 0 0 sh M23 sz 37 [(0, vr r), (1, vi x1)] []
      refine go_lv (lv' := [(0, vr r)]) X [0] rfl ?_
      exact hJ37  S20 M23  md24 hF22
    · skip
      have hF26 := if_t hF13 hq17
      refine go_aload_n X d_Model_expect_20 rfl rfl ?_
      refine go_dup X d_Model_expect_21 rfl ?_
      refine go_get (v := vi (S11 0 17)) X f_Model_134 md15.1.1 rfl d_Model_expect_22 (congrArg (s_v .int) ((md15.s 17).trans (rfl))) ?_
      refine go_iconst (v := 1) X d_Model_expect_25 ?_
      refine go_iadd X d_Model_expect_26 ?_
      obtain ⟨hc27, hF28⟩ := chk_t hF26
      refine go_put (x := ((S11 0 17) + 1)) (v := vi ((S11 0 17) + 1)) X f_Model_134 md15.1.1 rfl d_Model_expect_27 rfl rfl rfl ?_
      have md29 : mq sh M0 (m_s M14 r 17 ((S11 0 17) + 1)) r (m_s S11 0 17 ((S11 0 17) + 1)) := md15.put0 (by decide) ((rg_S (by decide) (by decide) hc27))
      generalize m_s M14 r 17 ((S11 0 17) + 1) = M30 at md29 ⊢
      refine go_goto (tgt := 37) X d_Model_expect_30 rfl ?_
      refine go_lv (lv' := [(0, vr r)]) X [0] rfl ?_
      exact hJ37  (m_s S11 0 17 ((S11 0 17) + 1)) M30  md29 hF28
  · skip
    have hF31 := if_f hF hq1
    exact go_vret X d_Model_expect_7 rfl (by decide) (by decide) (ret_v hF31 h)
def A_findKey_l5 (N : Nat) : Nat → Int → Int → Int → s_M → rO
  | 0, _, _, _, _ => none
  | n + 1, x1, x3, x4, S => if x4 < (S 0 6) then (chk (0 ≤ x4 ∧ x4 < 9) <| chk (rI (x4 + 1)) <| (A_findKey_l5 N n) x1 (if (S 5 x4) = x1 then (x4 : Int) else x3) (x4 + 1) S) else (some (x3, S))
theorem A_findKey_l5_e (N : Nat) (n : Nat) (x1 x3 x4 : Int) (S : s_M) : A_findKey_l5 N (n + 1) x1 x3 x4 S = (if x4 < (S 0 6) then (chk (0 ≤ x4 ∧ x4 < 9) <| chk (rI (x4 + 1)) <| (A_findKey_l5 N n) x1 (if (S 5 x4) = x1 then (x4 : Int) else x3) (x4 + 1) S) else (some (x3, S))) := rfl
def A_findKey (N : Nat) (x1 : Int) (S : s_M) : rO := A_findKey_l5 N N x1 (-1) 0 S
theorem A_findKey_e (N : Nat) (x1 : Int) (S : s_M) : A_findKey N x1 S = (A_findKey_l5 N N x1 (-1) 0 S) := rfl
set_option maxHeartbeats 4000000 in
set_option maxRecDepth 100000 in
theorem a_findKey (l : Launch) (D : va_G) {sh : s_S} {M0 M : s_M} {sz r x1 : Int} {N : Nat} {S S0 : s_M} {v0 : Int} (h : mq sh M0 M r S) (hx1 : rL x1) (hF : A_findKey N x1 S = some (v0, S0)) : Sp l D y_Model_findKey prog_14_method_34_code 5 (some .int) 1 0 0 [vr r, vl x1] sh M sz (fun v' sh' M' sz' => v' = some (vi v0) ∧ sh' = sh ∧ sz' = sz ∧ rI v0 ∧ mq sh M0 M' r S0) := by
  have hr0 := h.1.2.1
  refine Sp.ofGo (own := "CiteForgeModel") (nm := "findKey") (by decide) rfl rfl (Nat.le_of_ble_eq_true rfl) (lv := [(0, vr r), (1, vl x1)]) rfl ?_
  intro g X
  have hL5 : ∀ (n5 : Nat) (x1 x3 x4 : Int) (S1 M1 : s_M), rL x1 → rI x3 → rI x4 → mq sh M0 M1 r S1 → A_findKey_l5 N n5 x1 x3 x4 S1 = some (v0, S0) → Go g 0 0 sh M1 sz 5 [(0, vr r), (1, vl x1), (3, vi x3), (4, vi x4)] [] := by
    intro n5
    induction n5 with
    | zero => intro x1 x3 x4 S1 M1 hx1 hx3 hx4 hm hF; cases hF
    | succ n5 ih5 =>
      intro x1 x3 x4 S1 M1 hx1 hx3 hx4 hm hF
      rw [A_findKey_l5_e] at hF
      refine go_iload X d_Model_findKey_5 rfl ?_
      refine go_aload_n X d_Model_findKey_7 rfl rfl ?_
      refine go_get (v := vi (S1 0 6)) X f_Model_201 hm.1.1 rfl d_Model_findKey_8 (congrArg (s_v .int) ((hm.s 6).trans (rfl))) ?_
      refine go_icmp_ge (tgt := 39) X d_Model_findKey_11 rfl hx4 (hm.gS 6 (by decide) (by decide)) (fun hq1 => ?_) (fun hq1 => ?_)
      · skip
        have hF2 := if_f hF (Int.not_lt.mpr hq1)
        refine go_iload_n X d_Model_findKey_39 rfl rfl ?_
        exact go_iret X d_Model_findKey_40 rfl rfl (by decide) (by decide) (ret_i hF2 hx3 hm)
      · skip
        have hF3 := if_t hF hq1
        refine go_aload_n X d_Model_findKey_14 rfl rfl ?_
        refine go_get (v := vr (r + 5)) X f_Model_22 hm.1.1 rfl d_Model_findKey_15 (s_varr (hm.1.2.2 4 _ rfl).2 (by omega)) ?_
        refine go_iload X d_Model_findKey_18 rfl ?_
        obtain ⟨hc4, hF5⟩ := chk_t hF3
        refine go_lald X (hm.1.2.2 4 _ rfl).1 (by decide) hc4 d_Model_findKey_20 ?_
        refine go_top (v' := vl (S1 5 x4)) X (congrArg (fun q => vl q) ((hm.a (by decide) x4).trans (rfl))) ?_
        refine go_lload_n X d_Model_findKey_21 rfl rfl ?_
        refine go_lcmp X (hm.gL (by decide) x4) hx1 d_Model_findKey_22 ?_
        suffices hv6 : Go g 0 0 sh M1 sz 32 [(0, vr r), (1, vl x1), (3, vi x3), (4, vi x4)] [vi (if (S1 5 x4) = x1 then (x4 : Int) else x3)] by
          refine go_if_ne (tgt := 31) X d_Model_findKey_23 rfl (rI_cmp _ _) (fun hq7 => ?_) (fun hq7 => ?_)
          · skip
            refine go_iload_n X d_Model_findKey_31 rfl rfl ?_
            refine go_top (v' := vi (if (S1 5 x4) = x1 then (x4 : Int) else x3)) X (congrArg (fun q => vi q) (show x3 = if (S1 5 x4) = x1 then (x4 : Int) else x3 from ((if_neg (sc_ne hq7))).symm)) ?_
            exact hv6
          · skip
            refine go_iload X d_Model_findKey_26 rfl ?_
            refine go_goto (tgt := 32) X d_Model_findKey_28 rfl ?_
            refine go_top (v' := vi (if (S1 5 x4) = x1 then (x4 : Int) else x3)) X (congrArg (fun q => vi q) (show x4 = if (S1 5 x4) = x1 then (x4 : Int) else x3 from ((if_pos (s_cmp0 hq7))).symm)) ?_
            exact hv6
        refine go_istore_n (lv' := [(3, vi (if (S1 5 x4) = x1 then (x4 : Int) else x3)), (0, vr r), (1, vl x1), (4, vi x4)]) X d_Model_findKey_32 rfl (by decide) rfl ?_
        obtain ⟨hc8, hF9⟩ := chk_t hF5
        refine go_iinc (v := 1) (x := x4) (lv' := [(4, vi (x4 + 1)), (3, vi (if (S1 5 x4) = x1 then (x4 : Int) else x3)), (0, vr r), (1, vl x1)]) X d_Model_findKey_33 rfl (by decide) rfl ?_
        refine go_goto (tgt := 5) X d_Model_findKey_36 rfl ?_
        refine go_lv (lv' := [(0, vr r), (1, vl x1), (3, vi (if (S1 5 x4) = x1 then (x4 : Int) else x3)), (4, vi (x4 + 1))]) X [2, 3, 1, 0] rfl ?_
        exact ih5 x1 (if (S1 5 x4) = x1 then (x4 : Int) else x3) (x4 + 1) S1 M1 hx1 (rI_ite hx4 hx3) hc8 hm hF9
  rw [A_findKey_e] at hF
  refine go_iconst (v := (-1)) X d_Model_findKey_0 ?_
  refine go_istore_n (lv' := [(3, vi (-1)), (0, vr r), (1, vl x1)]) X d_Model_findKey_1 rfl (by decide) rfl ?_
  refine go_iconst (v := 0) X d_Model_findKey_2 ?_
  refine go_istore (lv' := [(4, vi 0), (3, vi (-1)), (0, vr r), (1, vl x1)]) X d_Model_findKey_3 (by decide) rfl ?_
  refine go_lv (lv' := [(0, vr r), (1, vl x1), (3, vi (-1)), (4, vi 0)]) X [2, 3, 1, 0] rfl ?_
  exact hL5 N x1 (-1) 0 S M hx1 (by decide) (by decide) h hF
def A_own_j46 (N : Nat) (k6 : Int → Int → Int → Int → s_M → rO) (x1 x2 x5 y0 : Int) (S : s_M) : rO := chk (rI (x5 + 1)) <| k6 x1 x2 y0 (x5 + 1) S
theorem A_own_j46_e (N : Nat) (k6 : Int → Int → Int → Int → s_M → rO) (x1 x2 x5 y0 : Int) (S : s_M) : A_own_j46 N k6 x1 x2 x5 y0 S = (chk (rI (x5 + 1)) <| k6 x1 x2 y0 (x5 + 1) S) := rfl
def A_own_l6 (N : Nat) : Nat → Int → Int → Int → Int → s_M → rO
  | 0, _, _, _, _, _ => none
  | n + 1, x1, x2, x4, x5, S => chk (0 ≤ x1 ∧ x1 < 9) <| if x5 < (S 7 x1) then (chk (rI (6 * x1)) <| chk (rI ((6 * x1) + x5)) <| chk (0 ≤ ((6 * x1) + x5) ∧ ((6 * x1) + x5) < 54) <| if (S 8 ((6 * x1) + x5)) = x2 then (chk (rI (6 * x1)) <| chk (rI ((6 * x1) + x5)) <| A_own_j46 N (A_own_l6 N n) x1 x2 x5 ((6 * x1) + x5) S) else (A_own_j46 N (A_own_l6 N n) x1 x2 x5 x4 S)) else (some (x4, S))
theorem A_own_l6_e (N : Nat) (n : Nat) (x1 x2 x4 x5 : Int) (S : s_M) : A_own_l6 N (n + 1) x1 x2 x4 x5 S = (chk (0 ≤ x1 ∧ x1 < 9) <| if x5 < (S 7 x1) then (chk (rI (6 * x1)) <| chk (rI ((6 * x1) + x5)) <| chk (0 ≤ ((6 * x1) + x5) ∧ ((6 * x1) + x5) < 54) <| if (S 8 ((6 * x1) + x5)) = x2 then (chk (rI (6 * x1)) <| chk (rI ((6 * x1) + x5)) <| A_own_j46 N (A_own_l6 N n) x1 x2 x5 ((6 * x1) + x5) S) else (A_own_j46 N (A_own_l6 N n) x1 x2 x5 x4 S)) else (some (x4, S))) := rfl
def A_own (N : Nat) (x1 x2 : Int) (S : s_M) : rO := A_own_l6 N N x1 x2 (-1) 0 S
theorem A_own_e (N : Nat) (x1 x2 : Int) (S : s_M) : A_own N x1 x2 S = (A_own_l6 N N x1 x2 (-1) 0 S) := rfl
set_option maxHeartbeats 4000000 in
set_option maxRecDepth 100000 in
theorem a_own (l : Launch) (D : va_G) {sh : s_S} {M0 M : s_M} {sz r x1 x2 : Int} {N : Nat} {S S0 : s_M} {v0 : Int} (h : mq sh M0 M r S) (hx1 : rI x1) (hx2 : rL x2) (hF : A_own N x1 x2 S = some (v0, S0)) : Sp l D y_Model_own prog_14_method_32_code 6 (some .int) 1 0 0 [vr r, vi x1, vl x2] sh M sz (fun v' sh' M' sz' => v' = some (vi v0) ∧ sh' = sh ∧ sz' = sz ∧ rI v0 ∧ mq sh M0 M' r S0) := by
  have hr0 := h.1.2.1
  refine Sp.ofGo (own := "CiteForgeModel") (nm := "own") (by decide) rfl rfl (Nat.le_of_ble_eq_true rfl) (lv := [(0, vr r), (1, vi x1), (2, vl x2)]) rfl ?_
  intro g X
  have hL6 : ∀ (n6 : Nat) (x1 x2 x4 x5 : Int) (S1 M1 : s_M), rI x1 → rL x2 → rI x4 → rI x5 → mq sh M0 M1 r S1 → A_own_l6 N n6 x1 x2 x4 x5 S1 = some (v0, S0) → Go g 0 0 sh M1 sz 6 [(0, vr r), (1, vi x1), (2, vl x2), (4, vi x4), (5, vi x5)] [] := by
    intro n6
    induction n6 with
    | zero => intro x1 x2 x4 x5 S1 M1 hx1 hx2 hx4 hx5 hm hF; cases hF
    | succ n6 ih6 =>
      have hJ46 : ∀ (x1 x2 x5 y0 : Int) (S1 M1 : s_M), rI x1 → rL x2 → rI x5 → rI y0 → mq sh M0 M1 r S1 → A_own_j46 N (A_own_l6 N n6) x1 x2 x5 y0 S1 = some (v0, S0) → Go g 0 0 sh M1 sz 46 [(0, vr r), (1, vi x1), (2, vl x2), (5, vi x5)] [vi y0] := by
        intro x1 x2 x5 y0 S1 M1 hx1 hx2 hx5 hy0 hm hF
        rw [A_own_j46_e] at hF
        refine go_istore (lv' := [(4, vi y0), (0, vr r), (1, vi x1), (2, vl x2), (5, vi x5)]) X d_Model_own_46 (by decide) rfl ?_
        obtain ⟨hc1, hF2⟩ := chk_t hF
        refine go_iinc (v := 1) (x := x5) (lv' := [(5, vi (x5 + 1)), (4, vi y0), (0, vr r), (1, vi x1), (2, vl x2)]) X d_Model_own_48 rfl (by decide) rfl ?_
        refine go_goto (tgt := 6) X d_Model_own_51 rfl ?_
        refine go_lv (lv' := [(0, vr r), (1, vi x1), (2, vl x2), (4, vi y0), (5, vi (x5 + 1))]) X [2, 3, 4, 1, 0] rfl ?_
        exact ih6 x1 x2 y0 (x5 + 1) S1 M1 hx1 hx2 hy0 hc1 hm hF2
      intro x1 x2 x4 x5 S1 M1 hx1 hx2 hx4 hx5 hm hF
      rw [A_own_l6_e] at hF
      refine go_iload X d_Model_own_6 rfl ?_
      refine go_aload_n X d_Model_own_8 rfl rfl ?_
      refine go_get (v := vr (r + 7)) X f_Model_29 hm.1.1 rfl d_Model_own_9 (s_varr (hm.1.2.2 6 _ rfl).2 (by omega)) ?_
      refine go_iload_n X d_Model_own_12 rfl rfl ?_
      obtain ⟨hc3, hF4⟩ := chk_t hF
      refine go_iald X (hm.1.2.2 6 _ rfl).1 (by decide) hc3 d_Model_own_13 ?_
      refine go_top (v' := vi (S1 7 x1)) X (congrArg (fun q => vi q) ((hm.a (by decide) x1).trans (rfl))) ?_
      refine go_icmp_ge (tgt := 54) X d_Model_own_14 rfl hx5 (hm.gA (by decide) x1) (fun hq5 => ?_) (fun hq5 => ?_)
      · skip
        have hF6 := if_f hF4 (Int.not_lt.mpr hq5)
        refine go_iload X d_Model_own_54 rfl ?_
        exact go_iret X d_Model_own_56 rfl rfl (by decide) (by decide) (ret_i hF6 hx4 hm)
      · skip
        have hF7 := if_t hF4 hq5
        refine go_aload_n X d_Model_own_17 rfl rfl ?_
        refine go_get (v := vr (r + 8)) X f_Model_32 hm.1.1 rfl d_Model_own_18 (s_varr (hm.1.2.2 7 _ rfl).2 (by omega)) ?_
        refine go_bipush (v := 6) X d_Model_own_21 (by decide) ?_
        refine go_iload_n X d_Model_own_23 rfl rfl ?_
        refine go_imul X d_Model_own_24 ?_
        obtain ⟨hc8, hF9⟩ := chk_t hF7
        refine go_iload X d_Model_own_25 rfl ?_
        refine go_iadd X d_Model_own_27 ?_
        obtain ⟨hc10, hF11⟩ := chk_t hF9
        obtain ⟨hc12, hF13⟩ := chk_t hF11
        refine go_lald X (hm.1.2.2 7 _ rfl).1 (by decide) hc12 d_Model_own_28 ?_
        refine go_top (v' := vl (S1 8 ((6 * x1) + x5))) X (congrArg (fun q => vl q) ((hm.a (by decide) ((6 * x1) + x5)).trans (rfl))) ?_
        refine go_lload_n X d_Model_own_29 rfl rfl ?_
        refine go_lcmp X (hm.gL (by decide) ((6 * x1) + x5)) hx2 d_Model_own_30 ?_
        refine go_if_ne (tgt := 44) X d_Model_own_31 rfl (rI_cmp _ _) (fun hq14 => ?_) (fun hq14 => ?_)
        · skip
          have hF15 := if_f hF13 (sc_ne hq14)
          refine go_iload X d_Model_own_44 rfl ?_
          refine go_lv (lv' := [(0, vr r), (1, vi x1), (2, vl x2), (5, vi x5)]) X [0, 1, 2, 4] rfl ?_
          exact hJ46 x1 x2 x5 x4 S1 M1 hx1 hx2 hx5 hx4 hm hF15
        · skip
          have hF16 := if_t hF13 (s_cmp0 hq14)
          refine go_bipush (v := 6) X d_Model_own_34 (by decide) ?_
          refine go_iload_n X d_Model_own_36 rfl rfl ?_
          refine go_imul X d_Model_own_37 ?_
          obtain ⟨hc17, hF18⟩ := chk_t hF16
          refine go_iload X d_Model_own_38 rfl ?_
          refine go_iadd X d_Model_own_40 ?_
          obtain ⟨hc19, hF20⟩ := chk_t hF18
          refine go_goto (tgt := 46) X d_Model_own_41 rfl ?_
          refine go_lv (lv' := [(0, vr r), (1, vi x1), (2, vl x2), (5, vi x5)]) X [0, 1, 2, 4] rfl ?_
          exact hJ46 x1 x2 x5 ((6 * x1) + x5) S1 M1 hx1 hx2 hx5 hc19 hm hF20
  rw [A_own_e] at hF
  refine go_iconst (v := (-1)) X d_Model_own_0 ?_
  refine go_istore (lv' := [(4, vi (-1)), (0, vr r), (1, vi x1), (2, vl x2)]) X d_Model_own_1 (by decide) rfl ?_
  refine go_iconst (v := 0) X d_Model_own_3 ?_
  refine go_istore (lv' := [(5, vi 0), (4, vi (-1)), (0, vr r), (1, vi x1), (2, vl x2)]) X d_Model_own_4 (by decide) rfl ?_
  refine go_lv (lv' := [(0, vr r), (1, vi x1), (2, vl x2), (4, vi (-1)), (5, vi 0)]) X [2, 3, 4, 1, 0] rfl ?_
  exact hL6 N x1 x2 (-1) 0 S M hx1 hx2 (by decide) (by decide) h hF
def A_clearText (N : Nat) (x1 : Int) (S : s_M) : rO := chk (0 ≤ x1 ∧ x1 < 85) <| some (0, m_s S 3 x1 0)
theorem A_clearText_e (N : Nat) (x1 : Int) (S : s_M) : A_clearText N x1 S = (chk (0 ≤ x1 ∧ x1 < 85) <| some (0, m_s S 3 x1 0)) := rfl
set_option maxHeartbeats 4000000 in
set_option maxRecDepth 100000 in
theorem a_clearText (l : Launch) (D : va_G) {sh : s_S} {M0 M : s_M} {sz r x1 : Int} {N : Nat} {S S0 : s_M} {v0 : Int} (h : mq sh M0 M r S) (hx1 : rI x1) (hF : A_clearText N x1 S = some (v0, S0)) : Sp l D y_Model_clearText prog_14_method_7_code 2 none 1 0 0 [vr r, vi x1] sh M sz (fun v' sh' M' sz' => v' = none ∧ sh' = sh ∧ sz' = sz ∧ mq sh M0 M' r S0) := by
  have hr0 := h.1.2.1
  refine Sp.ofGo (own := "CiteForgeModel") (nm := "clearText") (by decide) rfl rfl (Nat.le_of_ble_eq_true rfl) (lv := [(0, vr r), (1, vi x1)]) rfl ?_
  intro g X
  rw [A_clearText_e] at hF
  refine go_aload_n X d_Model_clearText_0 rfl rfl ?_
  refine go_get (v := vr (r + 3)) X f_Model_16 h.1.1 rfl d_Model_clearText_1 (s_varr (h.1.2.2 2 _ rfl).2 (by omega)) ?_
  refine go_iload_n X d_Model_clearText_4 rfl rfl ?_
  refine go_iconst (v := 0) X d_Model_clearText_5 ?_
  obtain ⟨hc1, hF2⟩ := chk_t hF
  refine go_iast (x := 0) X (h.1.2.2 2 _ rfl).1 (by decide) hc1 d_Model_clearText_6 ?_
  have md3 : mq sh M0 (m_s M (r + 3) x1 0) r (m_s S 3 x1 0) := h.put (by decide) ((rg_A (by decide) (by decide)))
  generalize m_s M (r + 3) x1 0 = M4 at md3 ⊢
  exact go_vret X d_Model_clearText_7 rfl (by decide) (by decide) (ret_v hF2 md3)
def A_add (N : Nat) (x1 x2 : Int) (S : s_M) : rO := chk (0 ≤ x1 ∧ x1 < 85) <| if (S 3 x1) = 60 then (some (0, S)) else (chk (rI (60 * x1)) <| chk (0 ≤ x1 ∧ x1 < 85) <| chk (rI ((60 * x1) + (S 3 x1))) <| chk (0 ≤ ((60 * x1) + (S 3 x1)) ∧ ((60 * x1) + (S 3 x1)) < 5100) <| chk (0 ≤ x1 ∧ x1 < 85) <| chk (rI ((S 3 x1) + 1)) <| chk (0 ≤ x1 ∧ x1 < 85) <| some (0, m_s (m_s S 4 ((60 * x1) + (S 3 x1)) x2) 3 x1 ((S 3 x1) + 1)))
theorem A_add_e (N : Nat) (x1 x2 : Int) (S : s_M) : A_add N x1 x2 S = (chk (0 ≤ x1 ∧ x1 < 85) <| if (S 3 x1) = 60 then (some (0, S)) else (chk (rI (60 * x1)) <| chk (0 ≤ x1 ∧ x1 < 85) <| chk (rI ((60 * x1) + (S 3 x1))) <| chk (0 ≤ ((60 * x1) + (S 3 x1)) ∧ ((60 * x1) + (S 3 x1)) < 5100) <| chk (0 ≤ x1 ∧ x1 < 85) <| chk (rI ((S 3 x1) + 1)) <| chk (0 ≤ x1 ∧ x1 < 85) <| some (0, m_s (m_s S 4 ((60 * x1) + (S 3 x1)) x2) 3 x1 ((S 3 x1) + 1)))) := rfl
set_option maxHeartbeats 4000000 in
set_option maxRecDepth 100000 in
theorem a_add (l : Launch) (D : va_G) {sh : s_S} {M0 M : s_M} {sz r x1 x2 : Int} {N : Nat} {S S0 : s_M} {v0 : Int} (h : mq sh M0 M r S) (hx1 : rI x1) (hx2 : rI x2) (hF : A_add N x1 x2 S = some (v0, S0)) : Sp l D y_Model_add prog_14_method_8_code 3 none 1 0 0 [vr r, vi x1, vi x2] sh M sz (fun v' sh' M' sz' => v' = none ∧ sh' = sh ∧ sz' = sz ∧ mq sh M0 M' r S0) := by
  have hr0 := h.1.2.1
  refine Sp.ofGo (own := "CiteForgeModel") (nm := "add") (by decide) rfl rfl (Nat.le_of_ble_eq_true rfl) (lv := [(0, vr r), (1, vi x1), (2, vi x2)]) rfl ?_
  intro g X
  rw [A_add_e] at hF
  refine go_aload_n X d_Model_add_0 rfl rfl ?_
  refine go_get (v := vr (r + 3)) X f_Model_16 h.1.1 rfl d_Model_add_1 (s_varr (h.1.2.2 2 _ rfl).2 (by omega)) ?_
  refine go_iload_n X d_Model_add_4 rfl rfl ?_
  obtain ⟨hc1, hF2⟩ := chk_t hF
  refine go_iald X (h.1.2.2 2 _ rfl).1 (by decide) hc1 d_Model_add_5 ?_
  refine go_top (v' := vi (S 3 x1)) X (congrArg (fun q => vi q) ((h.a (by decide) x1).trans (rfl))) ?_
  refine go_bipush (v := 60) X d_Model_add_6 (by decide) ?_
  refine go_icmp_ne (tgt := 12) X d_Model_add_8 rfl (h.gA (by decide) x1) (by decide) (fun hq3 => ?_) (fun hq3 => ?_)
  · skip
    have hF4 := if_f hF2 hq3
    refine go_aload_n X d_Model_add_12 rfl rfl ?_
    refine go_get (v := vr (r + 4)) X f_Model_19 h.1.1 rfl d_Model_add_13 (s_varr (h.1.2.2 3 _ rfl).2 (by omega)) ?_
    refine go_bipush (v := 60) X d_Model_add_16 (by decide) ?_
    refine go_iload_n X d_Model_add_18 rfl rfl ?_
    refine go_imul X d_Model_add_19 ?_
    obtain ⟨hc5, hF6⟩ := chk_t hF4
    refine go_aload_n X d_Model_add_20 rfl rfl ?_
    refine go_get (v := vr (r + 3)) X f_Model_16 h.1.1 rfl d_Model_add_21 (s_varr (h.1.2.2 2 _ rfl).2 (by omega)) ?_
    refine go_iload_n X d_Model_add_24 rfl rfl ?_
    obtain ⟨hc7, hF8⟩ := chk_t hF6
    refine go_iald X (h.1.2.2 2 _ rfl).1 (by decide) hc7 d_Model_add_25 ?_
    refine go_top (v' := vi (S 3 x1)) X (congrArg (fun q => vi q) ((h.a (by decide) x1).trans (rfl))) ?_
    refine go_iadd X d_Model_add_26 ?_
    obtain ⟨hc9, hF10⟩ := chk_t hF8
    refine go_iload_n X d_Model_add_27 rfl rfl ?_
    obtain ⟨hc11, hF12⟩ := chk_t hF10
    refine go_iast (x := x2) X (h.1.2.2 3 _ rfl).1 (by decide) hc11 d_Model_add_28 ?_
    have md13 : mq sh M0 (m_s M (r + 4) ((60 * x1) + (S 3 x1)) x2) r (m_s S 4 ((60 * x1) + (S 3 x1)) x2) := h.put (by decide) ((rg_A (by decide) hx2))
    generalize m_s M (r + 4) ((60 * x1) + (S 3 x1)) x2 = M14 at md13 ⊢
    refine go_aload_n X d_Model_add_29 rfl rfl ?_
    refine go_get (v := vr (r + 3)) X f_Model_16 md13.1.1 rfl d_Model_add_30 (s_varr (md13.1.2.2 2 _ rfl).2 (by omega)) ?_
    refine go_iload_n X d_Model_add_33 rfl rfl ?_
    refine go_dup2 X d_Model_add_34 rfl rfl ?_
    obtain ⟨hc15, hF16⟩ := chk_t hF12
    refine go_iald X (md13.1.2.2 2 _ rfl).1 (by decide) hc15 d_Model_add_35 ?_
    refine go_top (v' := vi (S 3 x1)) X (congrArg (fun q => vi q) ((md13.a (by decide) x1).trans ((m_sk (by decide)).trans (rfl)))) ?_
    refine go_iconst (v := 1) X d_Model_add_36 ?_
    refine go_iadd X d_Model_add_37 ?_
    obtain ⟨hc17, hF18⟩ := chk_t hF16
    obtain ⟨hc19, hF20⟩ := chk_t hF18
    refine go_iast (x := ((S 3 x1) + 1)) X (md13.1.2.2 2 _ rfl).1 (by decide) hc19 d_Model_add_38 ?_
    have md21 : mq sh M0 (m_s M14 (r + 3) x1 ((S 3 x1) + 1)) r (m_s (m_s S 4 ((60 * x1) + (S 3 x1)) x2) 3 x1 ((S 3 x1) + 1)) := md13.put (by decide) ((rg_A (by decide) hc17))
    generalize m_s M14 (r + 3) x1 ((S 3 x1) + 1) = M22 at md21 ⊢
    exact go_vret X d_Model_add_39 rfl (by decide) (by decide) (ret_v hF20 md21)
  · skip
    have hF23 := if_t hF2 hq3
    exact go_vret X d_Model_add_11 rfl (by decide) (by decide) (ret_v hF23 h)
def A_feed_j54 (N : Nat) (x1 : Int) (S : s_M) : rO := bnd (A_add N 82 x1 (m_s S 0 19 0)) fun v3 S4 => chk (rI ((S4 0 20) + 1)) <| some (0, m_s S4 0 20 ((S4 0 20) + 1))
theorem A_feed_j54_e (N : Nat) (x1 : Int) (S : s_M) : A_feed_j54 N x1 S = (bnd (A_add N 82 x1 (m_s S 0 19 0)) fun v3 S4 => chk (rI ((S4 0 20) + 1)) <| some (0, m_s S4 0 20 ((S4 0 20) + 1))) := rfl
def A_feed_j12 (N : Nat) (S : s_M) : rO := some (0, m_s S 0 19 (if 0 < (S 0 20) then (1 : Int) else 0))
theorem A_feed_j12_e (N : Nat) (S : s_M) : A_feed_j12 N S = (some (0, m_s S 0 19 (if 0 < (S 0 20) then (1 : Int) else 0))) := rfl
def A_feed (N : Nat) (x1 : Int) (S : s_M) : rO := if x1 = 32 then (A_feed_j12 N  S) else (if x1 = 10 then (A_feed_j12 N  S) else (if (S 0 19) = 0 then (A_feed_j54 N x1 S) else (bnd (A_add N 82 32 S) fun v26 S27 => chk (rI ((S27 0 20) + 1)) <| A_feed_j54 N x1 (m_s S27 0 20 ((S27 0 20) + 1)))))
theorem A_feed_e (N : Nat) (x1 : Int) (S : s_M) : A_feed N x1 S = (if x1 = 32 then (A_feed_j12 N  S) else (if x1 = 10 then (A_feed_j12 N  S) else (if (S 0 19) = 0 then (A_feed_j54 N x1 S) else (bnd (A_add N 82 32 S) fun v26 S27 => chk (rI ((S27 0 20) + 1)) <| A_feed_j54 N x1 (m_s S27 0 20 ((S27 0 20) + 1)))))) := rfl
set_option maxHeartbeats 4000000 in
set_option maxRecDepth 100000 in
theorem a_feed (l : Launch) (D : va_G) {sh : s_S} {M0 M : s_M} {sz r x1 : Int} {N : Nat} {S S0 : s_M} {v0 : Int} (h : mq sh M0 M r S) (hx1 : rI x1) (hF : A_feed N x1 S = some (v0, S0)) : Sp l D y_Model_feed prog_14_method_25_code 2 none 2 0 0 [vr r, vi x1] sh M sz (fun v' sh' M' sz' => v' = none ∧ sh' = sh ∧ sz' = sz ∧ mq sh M0 M' r S0) := by
  have hr0 := h.1.2.1
  refine Sp.ofGo (own := "CiteForgeModel") (nm := "feed") (by decide) rfl rfl (Nat.le_of_ble_eq_true rfl) (lv := [(0, vr r), (1, vi x1)]) rfl ?_
  intro g X
  have hJ54 : ∀ (x1 : Int) (S1 M1 : s_M), rI x1 → mq sh M0 M1 r S1 → A_feed_j54 N x1 S1 = some (v0, S0) → Go g 0 0 sh M1 sz 54 [(0, vr r), (1, vi x1)] [] := by
    intro x1 S1 M1 hx1 hm hF
    rw [A_feed_j54_e] at hF
    refine go_aload_n X d_Model_feed_54 rfl rfl ?_
    refine go_iconst (v := 0) X d_Model_feed_55 ?_
    refine go_put (x := 0) (v := vi 0) X f_Model_162 hm.1.1 rfl d_Model_feed_56 rfl (n_nz (by decide)) (n_fz (by decide)) ?_
    have md1 : mq sh M0 (m_s M1 r 19 0) r (m_s S1 0 19 0) := hm.put0 (by decide) ((rg_B (by decide) (by decide) (by decide)))
    generalize m_s M1 r 19 0 = M2 at md1 ⊢
    refine go_aload_n X d_Model_feed_59 rfl rfl ?_
    refine go_bipush (v := 82) X d_Model_feed_60 (by decide) ?_
    refine go_iload_n X d_Model_feed_62 rfl rfl ?_
    obtain ⟨v3, S4, hG5, hF6⟩ := bnd_t hF
    refine go_cV (st2 := []) (r := []) X k_Model_124 (a_add l D md1 (by decide) hx1 hG5) md1.1.1 rfl rfl (by decide) (Nat.le_of_ble_eq_true rfl) d_Model_feed_63 (by decide) (by decide) (fun v' sh' M7 sz' hpp => ?_)
    obtain ⟨e1, e2, e3, md8⟩ := hpp
    subst e1
    rw [e2, e3]
    clear e2 e3
    show Go g 0 0 sh M7 sz 66 [(0, vr r), (1, vi x1)] []
    refine go_aload_n X d_Model_feed_66 rfl rfl ?_
    refine go_dup X d_Model_feed_67 rfl ?_
    refine go_get (v := vi (S4 0 20)) X f_Model_159 md8.1.1 rfl d_Model_feed_68 (congrArg (s_v .int) ((md8.s 20).trans (rfl))) ?_
    refine go_iconst (v := 1) X d_Model_feed_71 ?_
    refine go_iadd X d_Model_feed_72 ?_
    obtain ⟨hc10, hF11⟩ := chk_t hF6
    refine go_put (x := ((S4 0 20) + 1)) (v := vi ((S4 0 20) + 1)) X f_Model_159 md8.1.1 rfl d_Model_feed_73 rfl rfl rfl ?_
    have md12 : mq sh M0 (m_s M7 r 20 ((S4 0 20) + 1)) r (m_s S4 0 20 ((S4 0 20) + 1)) := md8.put0 (by decide) ((rg_S (by decide) (by decide) hc10))
    generalize m_s M7 r 20 ((S4 0 20) + 1) = M13 at md12 ⊢
    exact go_vret X d_Model_feed_76 rfl (by decide) (by decide) (ret_v hF11 md12)
  have hJ12 : ∀ (S1 M1 : s_M), mq sh M0 M1 r S1 → A_feed_j12 N S1 = some (v0, S0) → Go g 0 0 sh M1 sz 12 [(0, vr r)] [] := by
    intro S1 M1 hm hF
    rw [A_feed_j12_e] at hF
    refine go_aload_n X d_Model_feed_12 rfl rfl ?_
    refine go_aload_n X d_Model_feed_13 rfl rfl ?_
    refine go_get (v := vi (S1 0 20)) X f_Model_159 hm.1.1 rfl d_Model_feed_14 (congrArg (s_v .int) ((hm.s 20).trans (rfl))) ?_
    suffices hv14 : Go g 0 0 sh M1 sz 25 [(0, vr r)] [vi (if 0 < (S1 0 20) then (1 : Int) else 0), vr r] by
      refine go_if_le (tgt := 24) X d_Model_feed_17 rfl (hm.gS 20 (by decide) (by decide)) (fun hq15 => ?_) (fun hq15 => ?_)
      · skip
        refine go_iconst (v := 0) X d_Model_feed_24 ?_
        refine go_top (v' := vi (if 0 < (S1 0 20) then (1 : Int) else 0)) X (congrArg (fun q => vi q) (show 0 = if 0 < (S1 0 20) then (1 : Int) else 0 from ((if_neg (Int.not_lt.mpr hq15))).symm)) ?_
        exact hv14
      · skip
        refine go_iconst (v := 1) X d_Model_feed_20 ?_
        refine go_goto (tgt := 25) X d_Model_feed_21 rfl ?_
        refine go_top (v' := vi (if 0 < (S1 0 20) then (1 : Int) else 0)) X (congrArg (fun q => vi q) (show 1 = if 0 < (S1 0 20) then (1 : Int) else 0 from ((if_pos hq15)).symm)) ?_
        exact hv14
    refine go_put (x := (if 0 < (S1 0 20) then (1 : Int) else 0)) (v := vi (if 0 < (S1 0 20) then (1 : Int) else 0)) X f_Model_162 hm.1.1 rfl d_Model_feed_25 rfl (n_nz (z_ite (by decide) (by decide))) (n_fz (z_ite (by decide) (by decide))) ?_
    have md16 : mq sh M0 (m_s M1 r 19 (if 0 < (S1 0 20) then (1 : Int) else 0)) r (m_s S1 0 19 (if 0 < (S1 0 20) then (1 : Int) else 0)) := hm.put0 (by decide) ((rg_B (by decide) (by decide) (z_ite (by decide) (by decide))))
    generalize m_s M1 r 19 (if 0 < (S1 0 20) then (1 : Int) else 0) = M17 at md16 ⊢
    exact go_vret X d_Model_feed_28 rfl (by decide) (by decide) (ret_v hF md16)
  rw [A_feed_e] at hF
  refine go_iload_n X d_Model_feed_0 rfl rfl ?_
  refine go_bipush (v := 32) X d_Model_feed_1 (by decide) ?_
  refine go_icmp_eq (tgt := 12) X d_Model_feed_3 rfl hx1 (by decide) (fun hq18 => ?_) (fun hq18 => ?_)
  · skip
    have hF19 := if_t hF hq18
    refine go_lv (lv' := [(0, vr r)]) X [0] rfl ?_
    exact hJ12  S M  h hF19
  · skip
    have hF20 := if_f hF hq18
    refine go_iload_n X d_Model_feed_6 rfl rfl ?_
    refine go_bipush (v := 10) X d_Model_feed_7 (by decide) ?_
    refine go_icmp_ne (tgt := 29) X d_Model_feed_9 rfl hx1 (by decide) (fun hq21 => ?_) (fun hq21 => ?_)
    · skip
      have hF22 := if_f hF20 hq21
      refine go_aload_n X d_Model_feed_29 rfl rfl ?_
      refine go_get (v := vi (S 0 19)) X f_Model_162 h.1.1 rfl d_Model_feed_30 (congrArg (s_v .boolean) ((h.s 19).trans (rfl))) ?_
      refine go_if_eq (tgt := 54) X d_Model_feed_33 rfl (rI_z (h.gB 19 (by decide) (by decide))) (fun hq23 => ?_) (fun hq23 => ?_)
      · skip
        have hF24 := if_t hF22 hq23
        refine go_lv (lv' := [(0, vr r), (1, vi x1)]) X [0, 1] rfl ?_
        exact hJ54 x1 S M hx1 h hF24
      · skip
        have hF25 := if_f hF22 hq23
        refine go_aload_n X d_Model_feed_36 rfl rfl ?_
        refine go_bipush (v := 82) X d_Model_feed_37 (by decide) ?_
        refine go_bipush (v := 32) X d_Model_feed_39 (by decide) ?_
        obtain ⟨v26, S27, hG28, hF29⟩ := bnd_t hF25
        refine go_cV (st2 := []) (r := []) X k_Model_124 (a_add l D h (by decide) (by decide) hG28) h.1.1 rfl rfl (by decide) (Nat.le_of_ble_eq_true rfl) d_Model_feed_41 (by decide) (by decide) (fun v' sh' M30 sz' hpp => ?_)
        obtain ⟨e1, e2, e3, md31⟩ := hpp
        subst e1
        rw [e2, e3]
        clear e2 e3
        show Go g 0 0 sh M30 sz 44 [(0, vr r), (1, vi x1)] []
        refine go_aload_n X d_Model_feed_44 rfl rfl ?_
        refine go_dup X d_Model_feed_45 rfl ?_
        refine go_get (v := vi (S27 0 20)) X f_Model_159 md31.1.1 rfl d_Model_feed_46 (congrArg (s_v .int) ((md31.s 20).trans (rfl))) ?_
        refine go_iconst (v := 1) X d_Model_feed_49 ?_
        refine go_iadd X d_Model_feed_50 ?_
        obtain ⟨hc33, hF34⟩ := chk_t hF29
        refine go_put (x := ((S27 0 20) + 1)) (v := vi ((S27 0 20) + 1)) X f_Model_159 md31.1.1 rfl d_Model_feed_51 rfl rfl rfl ?_
        have md35 : mq sh M0 (m_s M30 r 20 ((S27 0 20) + 1)) r (m_s S27 0 20 ((S27 0 20) + 1)) := md31.put0 (by decide) ((rg_S (by decide) (by decide) hc33))
        generalize m_s M30 r 20 ((S27 0 20) + 1) = M36 at md35 ⊢
        refine go_lv (lv' := [(0, vr r), (1, vi x1)]) X [0, 1] rfl ?_
        exact hJ54 x1 (m_s S27 0 20 ((S27 0 20) + 1)) M36 hx1 md35 hF34
    · skip
      have hF37 := if_t hF20 hq21
      refine go_lv (lv' := [(0, vr r)]) X [0] rfl ?_
      exact hJ12  S M  h hF37
def A_braced_j93 (N : Nat) (S : s_M) : rO := some (0, S)
theorem A_braced_j93_e (N : Nat) (S : s_M) : A_braced_j93 N S = (some (0, S)) := rfl
def A_braced_j72 (N : Nat) (k12 : Int → s_M → rO) (x1 x2 : Int) (S : s_M) : rO := chk (rI ((S 0 17) + (if x2 < 0 then (0 : Int) else 1))) <| k12 x1 (m_s S 0 17 ((S 0 17) + (if x2 < 0 then (0 : Int) else 1)))
theorem A_braced_j72_e (N : Nat) (k12 : Int → s_M → rO) (x1 x2 : Int) (S : s_M) : A_braced_j72 N k12 x1 x2 S = (chk (rI ((S 0 17) + (if x2 < 0 then (0 : Int) else 1))) <| k12 x1 (m_s S 0 17 ((S 0 17) + (if x2 < 0 then (0 : Int) else 1)))) := rfl
def A_braced_l12 (N : Nat) : Nat → Int → s_M → rO
  | 0, _, _ => none
  | n + 1, x1, S => if 0 < x1 then (if (S 0 18) = 0 then (bnd (A_here N S) fun v13 S14 => chk (rI (x1 + (if v13 = 123 then (1 : Int) else (if v13 = 125 then ((-1) : Int) else 0)))) <| if v13 < 0 then (bnd (A_other N S14) fun v38 S39 => A_braced_j72 N (A_braced_l12 N n) (x1 + (if v13 = 123 then (1 : Int) else (if v13 = 125 then ((-1) : Int) else 0))) v13 S39) else (if 0 < (x1 + (if v13 = 123 then (1 : Int) else (if v13 = 125 then ((-1) : Int) else 0))) then (bnd (A_feed N v13 S14) fun v30 S31 => A_braced_j72 N (A_braced_l12 N n) (x1 + (if v13 = 123 then (1 : Int) else (if v13 = 125 then ((-1) : Int) else 0))) v13 S31) else (A_braced_j72 N (A_braced_l12 N n) (x1 + (if v13 = 123 then (1 : Int) else (if v13 = 125 then ((-1) : Int) else 0))) v13 S14))) else (A_braced_j93 N  S)) else (A_braced_j93 N  S)
theorem A_braced_l12_e (N : Nat) (n : Nat) (x1 : Int) (S : s_M) : A_braced_l12 N (n + 1) x1 S = (if 0 < x1 then (if (S 0 18) = 0 then (bnd (A_here N S) fun v13 S14 => chk (rI (x1 + (if v13 = 123 then (1 : Int) else (if v13 = 125 then ((-1) : Int) else 0)))) <| if v13 < 0 then (bnd (A_other N S14) fun v38 S39 => A_braced_j72 N (A_braced_l12 N n) (x1 + (if v13 = 123 then (1 : Int) else (if v13 = 125 then ((-1) : Int) else 0))) v13 S39) else (if 0 < (x1 + (if v13 = 123 then (1 : Int) else (if v13 = 125 then ((-1) : Int) else 0))) then (bnd (A_feed N v13 S14) fun v30 S31 => A_braced_j72 N (A_braced_l12 N n) (x1 + (if v13 = 123 then (1 : Int) else (if v13 = 125 then ((-1) : Int) else 0))) v13 S31) else (A_braced_j72 N (A_braced_l12 N n) (x1 + (if v13 = 123 then (1 : Int) else (if v13 = 125 then ((-1) : Int) else 0))) v13 S14))) else (A_braced_j93 N  S)) else (A_braced_j93 N  S)) := rfl
def A_braced (N : Nat) (S : s_M) : rO := chk (rI ((S 0 17) + 1)) <| A_braced_l12 N N 1 (m_s S 0 17 ((S 0 17) + 1))
theorem A_braced_e (N : Nat) (S : s_M) : A_braced N S = (chk (rI ((S 0 17) + 1)) <| A_braced_l12 N N 1 (m_s S 0 17 ((S 0 17) + 1))) := rfl
set_option maxHeartbeats 4000000 in
set_option maxRecDepth 100000 in
theorem a_braced (l : Launch) (D : va_G) {sh : s_S} {M0 M : s_M} {sz r  : Int} {N : Nat} {S S0 : s_M} {v0 : Int} (h : mq sh M0 M r S) (hF : A_braced N S = some (v0, S0)) : Sp l D y_Model_braced prog_14_method_27_code 3 none 3 0 0 [vr r] sh M sz (fun v' sh' M' sz' => v' = none ∧ sh' = sh ∧ sz' = sz ∧ mq sh M0 M' r S0) := by
  have hr0 := h.1.2.1
  refine Sp.ofGo (own := "CiteForgeModel") (nm := "braced") (by decide) rfl rfl (Nat.le_of_ble_eq_true rfl) (lv := [(0, vr r)]) rfl ?_
  intro g X
  have hJ93 : ∀ (S1 M1 : s_M), mq sh M0 M1 r S1 → A_braced_j93 N S1 = some (v0, S0) → Go g 0 0 sh M1 sz 93 [(0, vr r)] [] := by
    intro S1 M1 hm hF
    rw [A_braced_j93_e] at hF
    exact go_vret X d_Model_braced_93 rfl (by decide) (by decide) (ret_v hF hm)
  have hL12 : ∀ (n12 : Nat) (x1 : Int) (S1 M1 : s_M), rI x1 → mq sh M0 M1 r S1 → A_braced_l12 N n12 x1 S1 = some (v0, S0) → Go g 0 0 sh M1 sz 12 [(0, vr r), (1, vi x1)] [] := by
    intro n12
    induction n12 with
    | zero => intro x1 S1 M1 hx1 hm hF; cases hF
    | succ n12 ih12 =>
      have hJ72 : ∀ (x1 x2 : Int) (S1 M1 : s_M), rI x1 → rI x2 → mq sh M0 M1 r S1 → A_braced_j72 N (A_braced_l12 N n12) x1 x2 S1 = some (v0, S0) → Go g 0 0 sh M1 sz 72 [(0, vr r), (1, vi x1), (2, vi x2)] [] := by
        intro x1 x2 S1 M1 hx1 hx2 hm hF
        rw [A_braced_j72_e] at hF
        refine go_aload_n X d_Model_braced_72 rfl rfl ?_
        refine go_dup X d_Model_braced_73 rfl ?_
        refine go_get (v := vi (S1 0 17)) X f_Model_134 hm.1.1 rfl d_Model_braced_74 (congrArg (s_v .int) ((hm.s 17).trans (rfl))) ?_
        refine go_iload_n X d_Model_braced_77 rfl rfl ?_
        suffices hv1 : Go g 0 0 sh M1 sz 86 [(0, vr r), (1, vi x1), (2, vi x2)] [vi (if x2 < 0 then (0 : Int) else 1), vi (S1 0 17), vr r] by
          refine go_if_ge (tgt := 85) X d_Model_braced_78 rfl hx2 (fun hq2 => ?_) (fun hq2 => ?_)
          · skip
            refine go_iconst (v := 1) X d_Model_braced_85 ?_
            refine go_top (v' := vi (if x2 < 0 then (0 : Int) else 1)) X (congrArg (fun q => vi q) (show 1 = if x2 < 0 then (0 : Int) else 1 from ((if_neg (Int.not_lt.mpr hq2))).symm)) ?_
            exact hv1
          · skip
            refine go_iconst (v := 0) X d_Model_braced_81 ?_
            refine go_goto (tgt := 86) X d_Model_braced_82 rfl ?_
            refine go_top (v' := vi (if x2 < 0 then (0 : Int) else 1)) X (congrArg (fun q => vi q) (show 0 = if x2 < 0 then (0 : Int) else 1 from ((if_pos hq2)).symm)) ?_
            exact hv1
        refine go_iadd X d_Model_braced_86 ?_
        obtain ⟨hc3, hF4⟩ := chk_t hF
        refine go_put (x := ((S1 0 17) + (if x2 < 0 then (0 : Int) else 1))) (v := vi ((S1 0 17) + (if x2 < 0 then (0 : Int) else 1))) X f_Model_134 hm.1.1 rfl d_Model_braced_87 rfl rfl rfl ?_
        have md5 : mq sh M0 (m_s M1 r 17 ((S1 0 17) + (if x2 < 0 then (0 : Int) else 1))) r (m_s S1 0 17 ((S1 0 17) + (if x2 < 0 then (0 : Int) else 1))) := hm.put0 (by decide) ((rg_S (by decide) (by decide) hc3))
        generalize m_s M1 r 17 ((S1 0 17) + (if x2 < 0 then (0 : Int) else 1)) = M6 at md5 ⊢
        refine go_goto (tgt := 12) X d_Model_braced_90 rfl ?_
        refine go_lv (lv' := [(0, vr r), (1, vi x1)]) X [0, 1] rfl ?_
        exact ih12 x1 (m_s S1 0 17 ((S1 0 17) + (if x2 < 0 then (0 : Int) else 1))) M6 hx1 md5 hF4
      intro x1 S1 M1 hx1 hm hF
      rw [A_braced_l12_e] at hF
      refine go_iload_n X d_Model_braced_12 rfl rfl ?_
      refine go_if_le (tgt := 93) X d_Model_braced_13 rfl hx1 (fun hq7 => ?_) (fun hq7 => ?_)
      · skip
        have hF8 := if_f hF (Int.not_lt.mpr hq7)
        refine go_lv (lv' := [(0, vr r)]) X [0] rfl ?_
        exact hJ93  S1 M1  hm hF8
      · skip
        have hF9 := if_t hF hq7
        refine go_aload_n X d_Model_braced_16 rfl rfl ?_
        refine go_get (v := vi (S1 0 18)) X f_Model_140 hm.1.1 rfl d_Model_braced_17 (congrArg (s_v .boolean) ((hm.s 18).trans (rfl))) ?_
        refine go_if_ne (tgt := 93) X d_Model_braced_20 rfl (rI_z (hm.gB 18 (by decide) (by decide))) (fun hq10 => ?_) (fun hq10 => ?_)
        · skip
          have hF11 := if_f hF9 hq10
          refine go_lv (lv' := [(0, vr r)]) X [0] rfl ?_
          exact hJ93  S1 M1  hm hF11
        · skip
          have hF12 := if_t hF9 hq10
          refine go_aload_n X d_Model_braced_23 rfl rfl ?_
          obtain ⟨v13, S14, hG15, hF16⟩ := bnd_t hF12
          refine go_cV (st2 := []) (r := []) X k_Model_136 (a_here l D hm hG15) hm.1.1 rfl rfl (by decide) (Nat.le_of_ble_eq_true rfl) d_Model_braced_24 (by decide) (by decide) (fun v' sh' M17 sz' hpp => ?_)
          obtain ⟨e1, e2, e3, hv19, md18⟩ := hpp
          subst e1
          rw [e2, e3]
          clear e2 e3
          show Go g 0 0 sh M17 sz 27 [(0, vr r), (1, vi x1)] [vi v13]
          refine go_istore_n (lv' := [(2, vi v13), (0, vr r), (1, vi x1)]) X d_Model_braced_27 rfl (by decide) rfl ?_
          refine go_iload_n X d_Model_braced_28 rfl rfl ?_
          refine go_iload_n X d_Model_braced_29 rfl rfl ?_
          refine go_bipush (v := 123) X d_Model_braced_30 (by decide) ?_
          suffices hv20 : Go g 0 0 sh M17 sz 50 [(2, vi v13), (0, vr r), (1, vi x1)] [vi (if v13 = 123 then (1 : Int) else (if v13 = 125 then ((-1) : Int) else 0)), vi x1] by
            refine go_icmp_ne (tgt := 39) X d_Model_braced_32 rfl hv19 (by decide) (fun hq21 => ?_) (fun hq21 => ?_)
            · skip
              refine go_iload_n X d_Model_braced_39 rfl rfl ?_
              refine go_bipush (v := 125) X d_Model_braced_40 (by decide) ?_
              refine go_icmp_ne (tgt := 49) X d_Model_braced_42 rfl hv19 (by decide) (fun hq22 => ?_) (fun hq22 => ?_)
              · skip
                refine go_iconst (v := 0) X d_Model_braced_49 ?_
                refine go_top (v' := vi (if v13 = 123 then (1 : Int) else (if v13 = 125 then ((-1) : Int) else 0))) X (congrArg (fun q => vi q) (show 0 = if v13 = 123 then (1 : Int) else (if v13 = 125 then ((-1) : Int) else 0) from ((if_neg hq21).trans ((if_neg hq22))).symm)) ?_
                exact hv20
              · skip
                refine go_iconst (v := (-1)) X d_Model_braced_45 ?_
                refine go_goto (tgt := 50) X d_Model_braced_46 rfl ?_
                refine go_top (v' := vi (if v13 = 123 then (1 : Int) else (if v13 = 125 then ((-1) : Int) else 0))) X (congrArg (fun q => vi q) (show (-1) = if v13 = 123 then (1 : Int) else (if v13 = 125 then ((-1) : Int) else 0) from ((if_neg hq21).trans ((if_pos hq22))).symm)) ?_
                exact hv20
            · skip
              refine go_iconst (v := 1) X d_Model_braced_35 ?_
              refine go_goto (tgt := 50) X d_Model_braced_36 rfl ?_
              refine go_top (v' := vi (if v13 = 123 then (1 : Int) else (if v13 = 125 then ((-1) : Int) else 0))) X (congrArg (fun q => vi q) (show 1 = if v13 = 123 then (1 : Int) else (if v13 = 125 then ((-1) : Int) else 0) from ((if_pos hq21)).symm)) ?_
              exact hv20
          refine go_iadd X d_Model_braced_50 ?_
          obtain ⟨hc23, hF24⟩ := chk_t hF16
          refine go_istore_n (lv' := [(1, vi (x1 + (if v13 = 123 then (1 : Int) else (if v13 = 125 then ((-1) : Int) else 0)))), (2, vi v13), (0, vr r)]) X d_Model_braced_51 rfl (by decide) rfl ?_
          refine go_iload_n X d_Model_braced_52 rfl rfl ?_
          refine go_if_ge (tgt := 63) X d_Model_braced_53 rfl hv19 (fun hq25 => ?_) (fun hq25 => ?_)
          · skip
            have hF26 := if_f hF24 (Int.not_lt.mpr hq25)
            refine go_iload_n X d_Model_braced_63 rfl rfl ?_
            refine go_if_le (tgt := 72) X d_Model_braced_64 rfl hc23 (fun hq27 => ?_) (fun hq27 => ?_)
            · skip
              have hF28 := if_f hF26 (Int.not_lt.mpr hq27)
              refine go_lv (lv' := [(0, vr r), (1, vi (x1 + (if v13 = 123 then (1 : Int) else (if v13 = 125 then ((-1) : Int) else 0)))), (2, vi v13)]) X [2, 0, 1] rfl ?_
              exact hJ72 (x1 + (if v13 = 123 then (1 : Int) else (if v13 = 125 then ((-1) : Int) else 0))) v13 S14 M17 hc23 hv19 md18 hF28
            · skip
              have hF29 := if_t hF26 hq27
              refine go_aload_n X d_Model_braced_67 rfl rfl ?_
              refine go_iload_n X d_Model_braced_68 rfl rfl ?_
              obtain ⟨v30, S31, hG32, hF33⟩ := bnd_t hF29
              refine go_cV (st2 := []) (r := []) X k_Model_168 (a_feed l D md18 hv19 hG32) md18.1.1 rfl rfl (by decide) (Nat.le_of_ble_eq_true rfl) d_Model_braced_69 (by decide) (by decide) (fun v' sh' M34 sz' hpp => ?_)
              obtain ⟨e1, e2, e3, md35⟩ := hpp
              subst e1
              rw [e2, e3]
              clear e2 e3
              show Go g 0 0 sh M34 sz 72 [(1, vi (x1 + (if v13 = 123 then (1 : Int) else (if v13 = 125 then ((-1) : Int) else 0)))), (2, vi v13), (0, vr r)] []
              refine go_lv (lv' := [(0, vr r), (1, vi (x1 + (if v13 = 123 then (1 : Int) else (if v13 = 125 then ((-1) : Int) else 0)))), (2, vi v13)]) X [2, 0, 1] rfl ?_
              exact hJ72 (x1 + (if v13 = 123 then (1 : Int) else (if v13 = 125 then ((-1) : Int) else 0))) v13 S31 M34 hc23 hv19 md35 hF33
          · skip
            have hF37 := if_t hF24 hq25
            refine go_aload_n X d_Model_braced_56 rfl rfl ?_
            obtain ⟨v38, S39, hG40, hF41⟩ := bnd_t hF37
            refine go_cV (st2 := []) (r := []) X k_Model_153 (a_other l D md18 hG40) md18.1.1 rfl rfl (by decide) (Nat.le_of_ble_eq_true rfl) d_Model_braced_57 (by decide) (by decide) (fun v' sh' M42 sz' hpp => ?_)
            obtain ⟨e1, e2, e3, md43⟩ := hpp
            subst e1
            rw [e2, e3]
            clear e2 e3
            show Go g 0 0 sh M42 sz 60 [(1, vi (x1 + (if v13 = 123 then (1 : Int) else (if v13 = 125 then ((-1) : Int) else 0)))), (2, vi v13), (0, vr r)] []
            refine go_goto (tgt := 72) X d_Model_braced_60 rfl ?_
            refine go_lv (lv' := [(0, vr r), (1, vi (x1 + (if v13 = 123 then (1 : Int) else (if v13 = 125 then ((-1) : Int) else 0)))), (2, vi v13)]) X [2, 0, 1] rfl ?_
            exact hJ72 (x1 + (if v13 = 123 then (1 : Int) else (if v13 = 125 then ((-1) : Int) else 0))) v13 S39 M42 hc23 hv19 md43 hF41
  rw [A_braced_e] at hF
  refine go_iconst (v := 1) X d_Model_braced_0 ?_
  refine go_istore_n (lv' := [(1, vi 1), (0, vr r)]) X d_Model_braced_1 rfl (by decide) rfl ?_
  refine go_aload_n X d_Model_braced_2 rfl rfl ?_
  refine go_dup X d_Model_braced_3 rfl ?_
  refine go_get (v := vi (S 0 17)) X f_Model_134 h.1.1 rfl d_Model_braced_4 (congrArg (s_v .int) ((h.s 17).trans (rfl))) ?_
  refine go_iconst (v := 1) X d_Model_braced_7 ?_
  refine go_iadd X d_Model_braced_8 ?_
  obtain ⟨hc45, hF46⟩ := chk_t hF
  refine go_put (x := ((S 0 17) + 1)) (v := vi ((S 0 17) + 1)) X f_Model_134 h.1.1 rfl d_Model_braced_9 rfl rfl rfl ?_
  have md47 : mq sh M0 (m_s M r 17 ((S 0 17) + 1)) r (m_s S 0 17 ((S 0 17) + 1)) := h.put0 (by decide) ((rg_S (by decide) (by decide) hc45))
  generalize m_s M r 17 ((S 0 17) + 1) = M48 at md47 ⊢
  refine go_lv (lv' := [(0, vr r), (1, vi 1)]) X [1, 0] rfl ?_
  exact hL12 N 1 (m_s S 0 17 ((S 0 17) + 1)) M48 (by decide) md47 hF46
def A_findString_l5 (N : Nat) : Nat → Int → Int → Int → s_M → rO
  | 0, _, _, _, _ => none
  | n + 1, x1, x3, x4, S => if x4 < (S 0 11) then (chk (0 ≤ x4 ∧ x4 < 8) <| chk (rI (x4 + 1)) <| (A_findString_l5 N n) x1 (if (S 9 x4) = x1 then (x4 : Int) else x3) (x4 + 1) S) else (some (x3, S))
theorem A_findString_l5_e (N : Nat) (n : Nat) (x1 x3 x4 : Int) (S : s_M) : A_findString_l5 N (n + 1) x1 x3 x4 S = (if x4 < (S 0 11) then (chk (0 ≤ x4 ∧ x4 < 8) <| chk (rI (x4 + 1)) <| (A_findString_l5 N n) x1 (if (S 9 x4) = x1 then (x4 : Int) else x3) (x4 + 1) S) else (some (x3, S))) := rfl
def A_findString (N : Nat) (x1 : Int) (S : s_M) : rO := A_findString_l5 N N x1 (-1) 0 S
theorem A_findString_e (N : Nat) (x1 : Int) (S : s_M) : A_findString N x1 S = (A_findString_l5 N N x1 (-1) 0 S) := rfl
set_option maxHeartbeats 4000000 in
set_option maxRecDepth 100000 in
theorem a_findString (l : Launch) (D : va_G) {sh : s_S} {M0 M : s_M} {sz r x1 : Int} {N : Nat} {S S0 : s_M} {v0 : Int} (h : mq sh M0 M r S) (hx1 : rL x1) (hF : A_findString N x1 S = some (v0, S0)) : Sp l D y_Model_findString prog_14_method_26_code 5 (some .int) 1 0 0 [vr r, vl x1] sh M sz (fun v' sh' M' sz' => v' = some (vi v0) ∧ sh' = sh ∧ sz' = sz ∧ rI v0 ∧ mq sh M0 M' r S0) := by
  have hr0 := h.1.2.1
  refine Sp.ofGo (own := "CiteForgeModel") (nm := "findString") (by decide) rfl rfl (Nat.le_of_ble_eq_true rfl) (lv := [(0, vr r), (1, vl x1)]) rfl ?_
  intro g X
  have hL5 : ∀ (n5 : Nat) (x1 x3 x4 : Int) (S1 M1 : s_M), rL x1 → rI x3 → rI x4 → mq sh M0 M1 r S1 → A_findString_l5 N n5 x1 x3 x4 S1 = some (v0, S0) → Go g 0 0 sh M1 sz 5 [(0, vr r), (1, vl x1), (3, vi x3), (4, vi x4)] [] := by
    intro n5
    induction n5 with
    | zero => intro x1 x3 x4 S1 M1 hx1 hx3 hx4 hm hF; cases hF
    | succ n5 ih5 =>
      intro x1 x3 x4 S1 M1 hx1 hx3 hx4 hm hF
      rw [A_findString_l5_e] at hF
      refine go_iload X d_Model_findString_5 rfl ?_
      refine go_aload_n X d_Model_findString_7 rfl rfl ?_
      refine go_get (v := vi (S1 0 11)) X f_Model_165 hm.1.1 rfl d_Model_findString_8 (congrArg (s_v .int) ((hm.s 11).trans (rfl))) ?_
      refine go_icmp_ge (tgt := 39) X d_Model_findString_11 rfl hx4 (hm.gS 11 (by decide) (by decide)) (fun hq1 => ?_) (fun hq1 => ?_)
      · skip
        have hF2 := if_f hF (Int.not_lt.mpr hq1)
        refine go_iload_n X d_Model_findString_39 rfl rfl ?_
        exact go_iret X d_Model_findString_40 rfl rfl (by decide) (by decide) (ret_i hF2 hx3 hm)
      · skip
        have hF3 := if_t hF hq1
        refine go_aload_n X d_Model_findString_14 rfl rfl ?_
        refine go_get (v := vr (r + 9)) X f_Model_35 hm.1.1 rfl d_Model_findString_15 (s_varr (hm.1.2.2 8 _ rfl).2 (by omega)) ?_
        refine go_iload X d_Model_findString_18 rfl ?_
        obtain ⟨hc4, hF5⟩ := chk_t hF3
        refine go_lald X (hm.1.2.2 8 _ rfl).1 (by decide) hc4 d_Model_findString_20 ?_
        refine go_top (v' := vl (S1 9 x4)) X (congrArg (fun q => vl q) ((hm.a (by decide) x4).trans (rfl))) ?_
        refine go_lload_n X d_Model_findString_21 rfl rfl ?_
        refine go_lcmp X (hm.gL (by decide) x4) hx1 d_Model_findString_22 ?_
        suffices hv6 : Go g 0 0 sh M1 sz 32 [(0, vr r), (1, vl x1), (3, vi x3), (4, vi x4)] [vi (if (S1 9 x4) = x1 then (x4 : Int) else x3)] by
          refine go_if_ne (tgt := 31) X d_Model_findString_23 rfl (rI_cmp _ _) (fun hq7 => ?_) (fun hq7 => ?_)
          · skip
            refine go_iload_n X d_Model_findString_31 rfl rfl ?_
            refine go_top (v' := vi (if (S1 9 x4) = x1 then (x4 : Int) else x3)) X (congrArg (fun q => vi q) (show x3 = if (S1 9 x4) = x1 then (x4 : Int) else x3 from ((if_neg (sc_ne hq7))).symm)) ?_
            exact hv6
          · skip
            refine go_iload X d_Model_findString_26 rfl ?_
            refine go_goto (tgt := 32) X d_Model_findString_28 rfl ?_
            refine go_top (v' := vi (if (S1 9 x4) = x1 then (x4 : Int) else x3)) X (congrArg (fun q => vi q) (show x4 = if (S1 9 x4) = x1 then (x4 : Int) else x3 from ((if_pos (s_cmp0 hq7))).symm)) ?_
            exact hv6
        refine go_istore_n (lv' := [(3, vi (if (S1 9 x4) = x1 then (x4 : Int) else x3)), (0, vr r), (1, vl x1), (4, vi x4)]) X d_Model_findString_32 rfl (by decide) rfl ?_
        obtain ⟨hc8, hF9⟩ := chk_t hF5
        refine go_iinc (v := 1) (x := x4) (lv' := [(4, vi (x4 + 1)), (3, vi (if (S1 9 x4) = x1 then (x4 : Int) else x3)), (0, vr r), (1, vl x1)]) X d_Model_findString_33 rfl (by decide) rfl ?_
        refine go_goto (tgt := 5) X d_Model_findString_36 rfl ?_
        refine go_lv (lv' := [(0, vr r), (1, vl x1), (3, vi (if (S1 9 x4) = x1 then (x4 : Int) else x3)), (4, vi (x4 + 1))]) X [2, 3, 1, 0] rfl ?_
        exact ih5 x1 (if (S1 9 x4) = x1 then (x4 : Int) else x3) (x4 + 1) S1 M1 hx1 (rI_ite hx4 hx3) hc8 hm hF9
  rw [A_findString_e] at hF
  refine go_iconst (v := (-1)) X d_Model_findString_0 ?_
  refine go_istore_n (lv' := [(3, vi (-1)), (0, vr r), (1, vl x1)]) X d_Model_findString_1 rfl (by decide) rfl ?_
  refine go_iconst (v := 0) X d_Model_findString_2 ?_
  refine go_istore (lv' := [(4, vi 0), (3, vi (-1)), (0, vr r), (1, vl x1)]) X d_Model_findString_3 (by decide) rfl ?_
  refine go_lv (lv' := [(0, vr r), (1, vl x1), (3, vi (-1)), (4, vi 0)]) X [2, 3, 1, 0] rfl ?_
  exact hL5 N x1 (-1) 0 S M hx1 (by decide) (by decide) h hF
def A_quoted_j117 (N : Nat) (S : s_M) : rO := some (0, S)
theorem A_quoted_j117_e (N : Nat) (S : s_M) : A_quoted_j117 N S = (some (0, S)) := rfl
def A_quoted_j100 (N : Nat) (S : s_M) : rO := if (S 0 18) = 0 then (chk (rI ((S 0 17) + 1)) <| A_quoted_j117 N  (m_s S 0 17 ((S 0 17) + 1))) else (A_quoted_j117 N  S)
theorem A_quoted_j100_e (N : Nat) (S : s_M) : A_quoted_j100 N S = (if (S 0 18) = 0 then (chk (rI ((S 0 17) + 1)) <| A_quoted_j117 N  (m_s S 0 17 ((S 0 17) + 1))) else (A_quoted_j117 N  S)) := rfl
def A_quoted_j97 (N : Nat) (k12 : Int → s_M → rO) (x1 : Int) (S : s_M) : rO := k12 x1 S
theorem A_quoted_j97_e (N : Nat) (k12 : Int → s_M → rO) (x1 : Int) (S : s_M) : A_quoted_j97 N k12 x1 S = (k12 x1 S) := rfl
def A_quoted_j58 (N : Nat) (k12 : Int → s_M → rO) (x1 x2 : Int) (S : s_M) : rO := chk (rI (x1 + (if x2 = 123 then (1 : Int) else (if x2 = 125 then ((-1) : Int) else 0)))) <| bnd (A_feed N x2 S) fun v13 S14 => chk (rI ((S14 0 17) + 1)) <| A_quoted_j97 N k12 (x1 + (if x2 = 123 then (1 : Int) else (if x2 = 125 then ((-1) : Int) else 0))) (m_s S14 0 17 ((S14 0 17) + 1))
theorem A_quoted_j58_e (N : Nat) (k12 : Int → s_M → rO) (x1 x2 : Int) (S : s_M) : A_quoted_j58 N k12 x1 x2 S = (chk (rI (x1 + (if x2 = 123 then (1 : Int) else (if x2 = 125 then ((-1) : Int) else 0)))) <| bnd (A_feed N x2 S) fun v13 S14 => chk (rI ((S14 0 17) + 1)) <| A_quoted_j97 N k12 (x1 + (if x2 = 123 then (1 : Int) else (if x2 = 125 then ((-1) : Int) else 0))) (m_s S14 0 17 ((S14 0 17) + 1))) := rfl
def A_quoted_j51 (N : Nat) (k12 : Int → s_M → rO) (x1 : Int) (S : s_M) : rO := bnd (A_other N S) fun v24 S25 => A_quoted_j97 N k12 x1 S25
theorem A_quoted_j51_e (N : Nat) (k12 : Int → s_M → rO) (x1 : Int) (S : s_M) : A_quoted_j51 N k12 x1 S = (bnd (A_other N S) fun v24 S25 => A_quoted_j97 N k12 x1 S25) := rfl
def A_quoted_j32 (N : Nat) (k12 : Int → s_M → rO) (x1 : Int) (S : s_M) : rO := bnd (A_here N S) fun v31 S32 => if v31 < 0 then (A_quoted_j51 N k12 x1 S32) else (if v31 = 125 then (if x1 = 0 then (A_quoted_j51 N k12 x1 S32) else (A_quoted_j58 N k12 x1 v31 S32)) else (A_quoted_j58 N k12 x1 v31 S32))
theorem A_quoted_j32_e (N : Nat) (k12 : Int → s_M → rO) (x1 : Int) (S : s_M) : A_quoted_j32 N k12 x1 S = (bnd (A_here N S) fun v31 S32 => if v31 < 0 then (A_quoted_j51 N k12 x1 S32) else (if v31 = 125 then (if x1 = 0 then (A_quoted_j51 N k12 x1 S32) else (A_quoted_j58 N k12 x1 v31 S32)) else (A_quoted_j58 N k12 x1 v31 S32))) := rfl
def A_quoted_l12 (N : Nat) : Nat → Int → s_M → rO
  | 0, _, _ => none
  | n + 1, x1, S => if (S 0 18) = 0 then (bnd (A_here N S) fun v50 S51 => if v50 = 34 then (if 0 < x1 then (A_quoted_j32 N (A_quoted_l12 N n) x1 S51) else (A_quoted_j100 N  S51)) else (A_quoted_j32 N (A_quoted_l12 N n) x1 S51)) else (A_quoted_j100 N  S)
theorem A_quoted_l12_e (N : Nat) (n : Nat) (x1 : Int) (S : s_M) : A_quoted_l12 N (n + 1) x1 S = (if (S 0 18) = 0 then (bnd (A_here N S) fun v50 S51 => if v50 = 34 then (if 0 < x1 then (A_quoted_j32 N (A_quoted_l12 N n) x1 S51) else (A_quoted_j100 N  S51)) else (A_quoted_j32 N (A_quoted_l12 N n) x1 S51)) else (A_quoted_j100 N  S)) := rfl
def A_quoted (N : Nat) (S : s_M) : rO := chk (rI ((S 0 17) + 1)) <| A_quoted_l12 N N 0 (m_s S 0 17 ((S 0 17) + 1))
theorem A_quoted_e (N : Nat) (S : s_M) : A_quoted N S = (chk (rI ((S 0 17) + 1)) <| A_quoted_l12 N N 0 (m_s S 0 17 ((S 0 17) + 1))) := rfl
set_option maxHeartbeats 4000000 in
set_option maxRecDepth 100000 in
theorem a_quoted (l : Launch) (D : va_G) {sh : s_S} {M0 M : s_M} {sz r  : Int} {N : Nat} {S S0 : s_M} {v0 : Int} (h : mq sh M0 M r S) (hF : A_quoted N S = some (v0, S0)) : Sp l D y_Model_quoted prog_14_method_28_code 3 none 3 0 0 [vr r] sh M sz (fun v' sh' M' sz' => v' = none ∧ sh' = sh ∧ sz' = sz ∧ mq sh M0 M' r S0) := by
  have hr0 := h.1.2.1
  refine Sp.ofGo (own := "CiteForgeModel") (nm := "quoted") (by decide) rfl rfl (Nat.le_of_ble_eq_true rfl) (lv := [(0, vr r)]) rfl ?_
  intro g X
  have hJ117 : ∀ (S1 M1 : s_M), mq sh M0 M1 r S1 → A_quoted_j117 N S1 = some (v0, S0) → Go g 0 0 sh M1 sz 117 [(0, vr r)] [] := by
    intro S1 M1 hm hF
    rw [A_quoted_j117_e] at hF
    exact go_vret X d_Model_quoted_117 rfl (by decide) (by decide) (ret_v hF hm)
  have hJ100 : ∀ (S1 M1 : s_M), mq sh M0 M1 r S1 → A_quoted_j100 N S1 = some (v0, S0) → Go g 0 0 sh M1 sz 100 [(0, vr r)] [] := by
    intro S1 M1 hm hF
    rw [A_quoted_j100_e] at hF
    refine go_aload_n X d_Model_quoted_100 rfl rfl ?_
    refine go_get (v := vi (S1 0 18)) X f_Model_140 hm.1.1 rfl d_Model_quoted_101 (congrArg (s_v .boolean) ((hm.s 18).trans (rfl))) ?_
    refine go_if_ne (tgt := 117) X d_Model_quoted_104 rfl (rI_z (hm.gB 18 (by decide) (by decide))) (fun hq1 => ?_) (fun hq1 => ?_)
    · skip
      have hF2 := if_f hF hq1
      refine go_lv (lv' := [(0, vr r)]) X [0] rfl ?_
      exact hJ117  S1 M1  hm hF2
    · skip
      have hF3 := if_t hF hq1
      refine go_aload_n X d_Model_quoted_107 rfl rfl ?_
      refine go_dup X d_Model_quoted_108 rfl ?_
      refine go_get (v := vi (S1 0 17)) X f_Model_134 hm.1.1 rfl d_Model_quoted_109 (congrArg (s_v .int) ((hm.s 17).trans (rfl))) ?_
      refine go_iconst (v := 1) X d_Model_quoted_112 ?_
      refine go_iadd X d_Model_quoted_113 ?_
      obtain ⟨hc4, hF5⟩ := chk_t hF3
      refine go_put (x := ((S1 0 17) + 1)) (v := vi ((S1 0 17) + 1)) X f_Model_134 hm.1.1 rfl d_Model_quoted_114 rfl rfl rfl ?_
      have md6 : mq sh M0 (m_s M1 r 17 ((S1 0 17) + 1)) r (m_s S1 0 17 ((S1 0 17) + 1)) := hm.put0 (by decide) ((rg_S (by decide) (by decide) hc4))
      generalize m_s M1 r 17 ((S1 0 17) + 1) = M7 at md6 ⊢
      refine go_lv (lv' := [(0, vr r)]) X [0] rfl ?_
      exact hJ117  (m_s S1 0 17 ((S1 0 17) + 1)) M7  md6 hF5
  have hL12 : ∀ (n12 : Nat) (x1 : Int) (S1 M1 : s_M), rI x1 → mq sh M0 M1 r S1 → A_quoted_l12 N n12 x1 S1 = some (v0, S0) → Go g 0 0 sh M1 sz 12 [(0, vr r), (1, vi x1)] [] := by
    intro n12
    induction n12 with
    | zero => intro x1 S1 M1 hx1 hm hF; cases hF
    | succ n12 ih12 =>
      have hJ97 : ∀ (x1 : Int) (S1 M1 : s_M), rI x1 → mq sh M0 M1 r S1 → A_quoted_j97 N (A_quoted_l12 N n12) x1 S1 = some (v0, S0) → Go g 0 0 sh M1 sz 97 [(0, vr r), (1, vi x1)] [] := by
        intro x1 S1 M1 hx1 hm hF
        rw [A_quoted_j97_e] at hF
        refine go_goto (tgt := 12) X d_Model_quoted_97 rfl ?_
        refine go_lv (lv' := [(0, vr r), (1, vi x1)]) X [0, 1] rfl ?_
        exact ih12 x1 S1 M1 hx1 hm hF
      have hJ58 : ∀ (x1 x2 : Int) (S1 M1 : s_M), rI x1 → rI x2 → mq sh M0 M1 r S1 → A_quoted_j58 N (A_quoted_l12 N n12) x1 x2 S1 = some (v0, S0) → Go g 0 0 sh M1 sz 58 [(0, vr r), (1, vi x1), (2, vi x2)] [] := by
        intro x1 x2 S1 M1 hx1 hx2 hm hF
        rw [A_quoted_j58_e] at hF
        refine go_iload_n X d_Model_quoted_58 rfl rfl ?_
        refine go_iload_n X d_Model_quoted_59 rfl rfl ?_
        refine go_bipush (v := 123) X d_Model_quoted_60 (by decide) ?_
        suffices hv8 : Go g 0 0 sh M1 sz 80 [(0, vr r), (1, vi x1), (2, vi x2)] [vi (if x2 = 123 then (1 : Int) else (if x2 = 125 then ((-1) : Int) else 0)), vi x1] by
          refine go_icmp_ne (tgt := 69) X d_Model_quoted_62 rfl hx2 (by decide) (fun hq9 => ?_) (fun hq9 => ?_)
          · skip
            refine go_iload_n X d_Model_quoted_69 rfl rfl ?_
            refine go_bipush (v := 125) X d_Model_quoted_70 (by decide) ?_
            refine go_icmp_ne (tgt := 79) X d_Model_quoted_72 rfl hx2 (by decide) (fun hq10 => ?_) (fun hq10 => ?_)
            · skip
              refine go_iconst (v := 0) X d_Model_quoted_79 ?_
              refine go_top (v' := vi (if x2 = 123 then (1 : Int) else (if x2 = 125 then ((-1) : Int) else 0))) X (congrArg (fun q => vi q) (show 0 = if x2 = 123 then (1 : Int) else (if x2 = 125 then ((-1) : Int) else 0) from ((if_neg hq9).trans ((if_neg hq10))).symm)) ?_
              exact hv8
            · skip
              refine go_iconst (v := (-1)) X d_Model_quoted_75 ?_
              refine go_goto (tgt := 80) X d_Model_quoted_76 rfl ?_
              refine go_top (v' := vi (if x2 = 123 then (1 : Int) else (if x2 = 125 then ((-1) : Int) else 0))) X (congrArg (fun q => vi q) (show (-1) = if x2 = 123 then (1 : Int) else (if x2 = 125 then ((-1) : Int) else 0) from ((if_neg hq9).trans ((if_pos hq10))).symm)) ?_
              exact hv8
          · skip
            refine go_iconst (v := 1) X d_Model_quoted_65 ?_
            refine go_goto (tgt := 80) X d_Model_quoted_66 rfl ?_
            refine go_top (v' := vi (if x2 = 123 then (1 : Int) else (if x2 = 125 then ((-1) : Int) else 0))) X (congrArg (fun q => vi q) (show 1 = if x2 = 123 then (1 : Int) else (if x2 = 125 then ((-1) : Int) else 0) from ((if_pos hq9)).symm)) ?_
            exact hv8
        refine go_iadd X d_Model_quoted_80 ?_
        obtain ⟨hc11, hF12⟩ := chk_t hF
        refine go_istore_n (lv' := [(1, vi (x1 + (if x2 = 123 then (1 : Int) else (if x2 = 125 then ((-1) : Int) else 0)))), (0, vr r), (2, vi x2)]) X d_Model_quoted_81 rfl (by decide) rfl ?_
        refine go_aload_n X d_Model_quoted_82 rfl rfl ?_
        refine go_iload_n X d_Model_quoted_83 rfl rfl ?_
        obtain ⟨v13, S14, hG15, hF16⟩ := bnd_t hF12
        refine go_cV (st2 := []) (r := []) X k_Model_168 (a_feed l D hm hx2 hG15) hm.1.1 rfl rfl (by decide) (Nat.le_of_ble_eq_true rfl) d_Model_quoted_84 (by decide) (by decide) (fun v' sh' M17 sz' hpp => ?_)
        obtain ⟨e1, e2, e3, md18⟩ := hpp
        subst e1
        rw [e2, e3]
        clear e2 e3
        show Go g 0 0 sh M17 sz 87 [(1, vi (x1 + (if x2 = 123 then (1 : Int) else (if x2 = 125 then ((-1) : Int) else 0)))), (0, vr r), (2, vi x2)] []
        refine go_aload_n X d_Model_quoted_87 rfl rfl ?_
        refine go_dup X d_Model_quoted_88 rfl ?_
        refine go_get (v := vi (S14 0 17)) X f_Model_134 md18.1.1 rfl d_Model_quoted_89 (congrArg (s_v .int) ((md18.s 17).trans (rfl))) ?_
        refine go_iconst (v := 1) X d_Model_quoted_92 ?_
        refine go_iadd X d_Model_quoted_93 ?_
        obtain ⟨hc20, hF21⟩ := chk_t hF16
        refine go_put (x := ((S14 0 17) + 1)) (v := vi ((S14 0 17) + 1)) X f_Model_134 md18.1.1 rfl d_Model_quoted_94 rfl rfl rfl ?_
        have md22 : mq sh M0 (m_s M17 r 17 ((S14 0 17) + 1)) r (m_s S14 0 17 ((S14 0 17) + 1)) := md18.put0 (by decide) ((rg_S (by decide) (by decide) hc20))
        generalize m_s M17 r 17 ((S14 0 17) + 1) = M23 at md22 ⊢
        refine go_lv (lv' := [(0, vr r), (1, vi (x1 + (if x2 = 123 then (1 : Int) else (if x2 = 125 then ((-1) : Int) else 0))))]) X [1, 0] rfl ?_
        exact hJ97 (x1 + (if x2 = 123 then (1 : Int) else (if x2 = 125 then ((-1) : Int) else 0))) (m_s S14 0 17 ((S14 0 17) + 1)) M23 hc11 md22 hF21
      have hJ51 : ∀ (x1 : Int) (S1 M1 : s_M), rI x1 → mq sh M0 M1 r S1 → A_quoted_j51 N (A_quoted_l12 N n12) x1 S1 = some (v0, S0) → Go g 0 0 sh M1 sz 51 [(0, vr r), (1, vi x1)] [] := by
        intro x1 S1 M1 hx1 hm hF
        rw [A_quoted_j51_e] at hF
        refine go_aload_n X d_Model_quoted_51 rfl rfl ?_
        obtain ⟨v24, S25, hG26, hF27⟩ := bnd_t hF
        refine go_cV (st2 := []) (r := []) X k_Model_153 (a_other l D hm hG26) hm.1.1 rfl rfl (by decide) (Nat.le_of_ble_eq_true rfl) d_Model_quoted_52 (by decide) (by decide) (fun v' sh' M28 sz' hpp => ?_)
        obtain ⟨e1, e2, e3, md29⟩ := hpp
        subst e1
        rw [e2, e3]
        clear e2 e3
        show Go g 0 0 sh M28 sz 55 [(0, vr r), (1, vi x1)] []
        refine go_goto (tgt := 97) X d_Model_quoted_55 rfl ?_
        refine go_lv (lv' := [(0, vr r), (1, vi x1)]) X [0, 1] rfl ?_
        exact hJ97 x1 S25 M28 hx1 md29 hF27
      have hJ32 : ∀ (x1 : Int) (S1 M1 : s_M), rI x1 → mq sh M0 M1 r S1 → A_quoted_j32 N (A_quoted_l12 N n12) x1 S1 = some (v0, S0) → Go g 0 0 sh M1 sz 32 [(0, vr r), (1, vi x1)] [] := by
        intro x1 S1 M1 hx1 hm hF
        rw [A_quoted_j32_e] at hF
        refine go_aload_n X d_Model_quoted_32 rfl rfl ?_
        obtain ⟨v31, S32, hG33, hF34⟩ := bnd_t hF
        refine go_cV (st2 := []) (r := []) X k_Model_136 (a_here l D hm hG33) hm.1.1 rfl rfl (by decide) (Nat.le_of_ble_eq_true rfl) d_Model_quoted_33 (by decide) (by decide) (fun v' sh' M35 sz' hpp => ?_)
        obtain ⟨e1, e2, e3, hv37, md36⟩ := hpp
        subst e1
        rw [e2, e3]
        clear e2 e3
        show Go g 0 0 sh M35 sz 36 [(0, vr r), (1, vi x1)] [vi v31]
        refine go_istore_n (lv' := [(2, vi v31), (0, vr r), (1, vi x1)]) X d_Model_quoted_36 rfl (by decide) rfl ?_
        refine go_iload_n X d_Model_quoted_37 rfl rfl ?_
        refine go_if_lt (tgt := 51) X d_Model_quoted_38 rfl hv37 (fun hq38 => ?_) (fun hq38 => ?_)
        · skip
          have hF39 := if_t hF34 hq38
          refine go_lv (lv' := [(0, vr r), (1, vi x1)]) X [1, 2] rfl ?_
          exact hJ51 x1 S32 M35 hx1 md36 hF39
        · skip
          have hF40 := if_f hF34 (Int.not_lt.mpr hq38)
          refine go_iload_n X d_Model_quoted_41 rfl rfl ?_
          refine go_bipush (v := 125) X d_Model_quoted_42 (by decide) ?_
          refine go_icmp_ne (tgt := 58) X d_Model_quoted_44 rfl hv37 (by decide) (fun hq41 => ?_) (fun hq41 => ?_)
          · skip
            have hF42 := if_f hF40 hq41
            refine go_lv (lv' := [(0, vr r), (1, vi x1), (2, vi v31)]) X [1, 2, 0] rfl ?_
            exact hJ58 x1 v31 S32 M35 hx1 hv37 md36 hF42
          · skip
            have hF43 := if_t hF40 hq41
            refine go_iload_n X d_Model_quoted_47 rfl rfl ?_
            refine go_if_ne (tgt := 58) X d_Model_quoted_48 rfl hx1 (fun hq44 => ?_) (fun hq44 => ?_)
            · skip
              have hF45 := if_f hF43 hq44
              refine go_lv (lv' := [(0, vr r), (1, vi x1), (2, vi v31)]) X [1, 2, 0] rfl ?_
              exact hJ58 x1 v31 S32 M35 hx1 hv37 md36 hF45
            · skip
              have hF46 := if_t hF43 hq44
              refine go_lv (lv' := [(0, vr r), (1, vi x1)]) X [1, 2] rfl ?_
              exact hJ51 x1 S32 M35 hx1 md36 hF46
      intro x1 S1 M1 hx1 hm hF
      rw [A_quoted_l12_e] at hF
      refine go_aload_n X d_Model_quoted_12 rfl rfl ?_
      refine go_get (v := vi (S1 0 18)) X f_Model_140 hm.1.1 rfl d_Model_quoted_13 (congrArg (s_v .boolean) ((hm.s 18).trans (rfl))) ?_
      refine go_if_ne (tgt := 100) X d_Model_quoted_16 rfl (rI_z (hm.gB 18 (by decide) (by decide))) (fun hq47 => ?_) (fun hq47 => ?_)
      · skip
        have hF48 := if_f hF hq47
        refine go_lv (lv' := [(0, vr r)]) X [0] rfl ?_
        exact hJ100  S1 M1  hm hF48
      · skip
        have hF49 := if_t hF hq47
        refine go_aload_n X d_Model_quoted_19 rfl rfl ?_
        obtain ⟨v50, S51, hG52, hF53⟩ := bnd_t hF49
        refine go_cV (st2 := []) (r := []) X k_Model_136 (a_here l D hm hG52) hm.1.1 rfl rfl (by decide) (Nat.le_of_ble_eq_true rfl) d_Model_quoted_20 (by decide) (by decide) (fun v' sh' M54 sz' hpp => ?_)
        obtain ⟨e1, e2, e3, hv56, md55⟩ := hpp
        subst e1
        rw [e2, e3]
        clear e2 e3
        show Go g 0 0 sh M54 sz 23 [(0, vr r), (1, vi x1)] [vi v50]
        refine go_bipush (v := 34) X d_Model_quoted_23 (by decide) ?_
        refine go_icmp_ne (tgt := 32) X d_Model_quoted_25 rfl hv56 (by decide) (fun hq57 => ?_) (fun hq57 => ?_)
        · skip
          have hF58 := if_f hF53 hq57
          refine go_lv (lv' := [(0, vr r), (1, vi x1)]) X [0, 1] rfl ?_
          exact hJ32 x1 S51 M54 hx1 md55 hF58
        · skip
          have hF59 := if_t hF53 hq57
          refine go_iload_n X d_Model_quoted_28 rfl rfl ?_
          refine go_if_le (tgt := 100) X d_Model_quoted_29 rfl hx1 (fun hq60 => ?_) (fun hq60 => ?_)
          · skip
            have hF61 := if_f hF59 (Int.not_lt.mpr hq60)
            refine go_lv (lv' := [(0, vr r)]) X [0] rfl ?_
            exact hJ100  S51 M54  md55 hF61
          · skip
            have hF62 := if_t hF59 hq60
            refine go_lv (lv' := [(0, vr r), (1, vi x1)]) X [0, 1] rfl ?_
            exact hJ32 x1 S51 M54 hx1 md55 hF62
  rw [A_quoted_e] at hF
  refine go_iconst (v := 0) X d_Model_quoted_0 ?_
  refine go_istore_n (lv' := [(1, vi 0), (0, vr r)]) X d_Model_quoted_1 rfl (by decide) rfl ?_
  refine go_aload_n X d_Model_quoted_2 rfl rfl ?_
  refine go_dup X d_Model_quoted_3 rfl ?_
  refine go_get (v := vi (S 0 17)) X f_Model_134 h.1.1 rfl d_Model_quoted_4 (congrArg (s_v .int) ((h.s 17).trans (rfl))) ?_
  refine go_iconst (v := 1) X d_Model_quoted_7 ?_
  refine go_iadd X d_Model_quoted_8 ?_
  obtain ⟨hc63, hF64⟩ := chk_t hF
  refine go_put (x := ((S 0 17) + 1)) (v := vi ((S 0 17) + 1)) X f_Model_134 h.1.1 rfl d_Model_quoted_9 rfl rfl rfl ?_
  have md65 : mq sh M0 (m_s M r 17 ((S 0 17) + 1)) r (m_s S 0 17 ((S 0 17) + 1)) := h.put0 (by decide) ((rg_S (by decide) (by decide) hc63))
  generalize m_s M r 17 ((S 0 17) + 1) = M66 at md65 ⊢
  refine go_lv (lv' := [(0, vr r), (1, vi 0)]) X [1, 0] rfl ?_
  exact hL12 N 0 (m_s S 0 17 ((S 0 17) + 1)) M66 (by decide) md65 hF64
def A_word_j73 (N : Nat) (x1 : Int) (S : s_M) : rO := some (x1, S)
theorem A_word_j73_e (N : Nat) (x1 : Int) (S : s_M) : A_word_j73 N x1 S = (some (x1, S)) := rfl
def A_word_j65 (N : Nat) (x1 x3 : Int) (S : s_M) : rO := if x3 = 0 then (bnd (A_other N S) fun v4 S5 => A_word_j73 N x1 S5) else (A_word_j73 N x1 S)
theorem A_word_j65_e (N : Nat) (x1 x3 : Int) (S : s_M) : A_word_j65 N x1 x3 S = (if x3 = 0 then (bnd (A_other N S) fun v4 S5 => A_word_j73 N x1 S5) else (A_word_j73 N x1 S)) := rfl
def A_word_l17 (N : Nat) : Nat → Int → Int → s_M → rO
  | 0, _, _, _ => none
  | n + 1, x1, x3, S => if x3 < 8 then (bnd (A_here N S) fun v14 S15 => if (p_wc v14) = true then (bnd (A_here N S15) fun v24 S25 => chk (rI (8 * x3)) <| chk (rI (x3 + 1)) <| chk (rI ((S25 0 17) + 1)) <| (A_word_l17 N n) (l_orr x1 (l_shf (p_low v24) (8 * x3))) (x3 + 1) (m_s S25 0 17 ((S25 0 17) + 1))) else (A_word_j65 N x1 x3 S15)) else (A_word_j65 N x1 x3 S)
theorem A_word_l17_e (N : Nat) (n : Nat) (x1 x3 : Int) (S : s_M) : A_word_l17 N (n + 1) x1 x3 S = (if x3 < 8 then (bnd (A_here N S) fun v14 S15 => if (p_wc v14) = true then (bnd (A_here N S15) fun v24 S25 => chk (rI (8 * x3)) <| chk (rI (x3 + 1)) <| chk (rI ((S25 0 17) + 1)) <| (A_word_l17 N n) (l_orr x1 (l_shf (p_low v24) (8 * x3))) (x3 + 1) (m_s S25 0 17 ((S25 0 17) + 1))) else (A_word_j65 N x1 x3 S15)) else (A_word_j65 N x1 x3 S)) := rfl
def A_word (N : Nat) (S : s_M) : rO := if (S 0 18) = 0 then (bnd (A_blanks N S) fun v41 S42 => A_word_l17 N N 0 0 S42) else (some (0, S))
theorem A_word_e (N : Nat) (S : s_M) : A_word N S = (if (S 0 18) = 0 then (bnd (A_blanks N S) fun v41 S42 => A_word_l17 N N 0 0 S42) else (some (0, S))) := rfl
set_option maxHeartbeats 4000000 in
set_option maxRecDepth 100000 in
theorem a_word (l : Launch) (D : va_G) {sh : s_S} {M0 M : s_M} {sz r  : Int} {N : Nat} {S S0 : s_M} {v0 : Int} (h : mq sh M0 M r S) (hF : A_word N S = some (v0, S0)) : Sp l D y_Model_word prog_14_method_24_code 4 (some .long) 4 0 0 [vr r] sh M sz (fun v' sh' M' sz' => v' = some (vl v0) ∧ sh' = sh ∧ sz' = sz ∧ rL v0 ∧ mq sh M0 M' r S0) := by
  have hr0 := h.1.2.1
  refine Sp.ofGo (own := "CiteForgeModel") (nm := "word") (by decide) rfl rfl (Nat.le_of_ble_eq_true rfl) (lv := [(0, vr r)]) rfl ?_
  intro g X
  have hJ73 : ∀ (x1 : Int) (S1 M1 : s_M), rL x1 → mq sh M0 M1 r S1 → A_word_j73 N x1 S1 = some (v0, S0) → Go g 0 0 sh M1 sz 73 [(0, vr r), (1, vl x1)] [] := by
    intro x1 S1 M1 hx1 hm hF
    rw [A_word_j73_e] at hF
    refine go_lload_n X d_Model_word_73 rfl rfl ?_
    exact go_lret X d_Model_word_74 rfl (by decide) (by decide) (ret_l hF hx1 hm)
  have hJ65 : ∀ (x1 x3 : Int) (S1 M1 : s_M), rL x1 → rI x3 → mq sh M0 M1 r S1 → A_word_j65 N x1 x3 S1 = some (v0, S0) → Go g 0 0 sh M1 sz 65 [(0, vr r), (1, vl x1), (3, vi x3)] [] := by
    intro x1 x3 S1 M1 hx1 hx3 hm hF
    rw [A_word_j65_e] at hF
    refine go_iload_n X d_Model_word_65 rfl rfl ?_
    refine go_if_ne (tgt := 73) X d_Model_word_66 rfl hx3 (fun hq1 => ?_) (fun hq1 => ?_)
    · skip
      have hF2 := if_f hF hq1
      refine go_lv (lv' := [(0, vr r), (1, vl x1)]) X [0, 1] rfl ?_
      exact hJ73 x1 S1 M1 hx1 hm hF2
    · skip
      have hF3 := if_t hF hq1
      refine go_aload_n X d_Model_word_69 rfl rfl ?_
      obtain ⟨v4, S5, hG6, hF7⟩ := bnd_t hF3
      refine go_cV (st2 := []) (r := []) X k_Model_153 (a_other l D hm hG6) hm.1.1 rfl rfl (by decide) (Nat.le_of_ble_eq_true rfl) d_Model_word_70 (by decide) (by decide) (fun v' sh' M8 sz' hpp => ?_)
      obtain ⟨e1, e2, e3, md9⟩ := hpp
      subst e1
      rw [e2, e3]
      clear e2 e3
      show Go g 0 0 sh M8 sz 73 [(0, vr r), (1, vl x1), (3, vi x3)] []
      refine go_lv (lv' := [(0, vr r), (1, vl x1)]) X [0, 1] rfl ?_
      exact hJ73 x1 S5 M8 hx1 md9 hF7
  have hL17 : ∀ (n17 : Nat) (x1 x3 : Int) (S1 M1 : s_M), rL x1 → rI x3 → mq sh M0 M1 r S1 → A_word_l17 N n17 x1 x3 S1 = some (v0, S0) → Go g 0 0 sh M1 sz 17 [(0, vr r), (1, vl x1), (3, vi x3)] [] := by
    intro n17
    induction n17 with
    | zero => intro x1 x3 S1 M1 hx1 hx3 hm hF; cases hF
    | succ n17 ih17 =>
      intro x1 x3 S1 M1 hx1 hx3 hm hF
      rw [A_word_l17_e] at hF
      refine go_iload_n X d_Model_word_17 rfl rfl ?_
      refine go_bipush (v := 8) X d_Model_word_18 (by decide) ?_
      refine go_icmp_ge (tgt := 65) X d_Model_word_20 rfl hx3 (by decide) (fun hq11 => ?_) (fun hq11 => ?_)
      · skip
        have hF12 := if_f hF (Int.not_lt.mpr hq11)
        refine go_lv (lv' := [(0, vr r), (1, vl x1), (3, vi x3)]) X [0, 1, 2] rfl ?_
        exact hJ65 x1 x3 S1 M1 hx1 hx3 hm hF12
      · skip
        have hF13 := if_t hF hq11
        refine go_aload_n X d_Model_word_23 rfl rfl ?_
        obtain ⟨v14, S15, hG16, hF17⟩ := bnd_t hF13
        refine go_cV (st2 := []) (r := []) X k_Model_136 (a_here l D hm hG16) hm.1.1 rfl rfl (by decide) (Nat.le_of_ble_eq_true rfl) d_Model_word_24 (by decide) (by decide) (fun v' sh' M18 sz' hpp => ?_)
        obtain ⟨e1, e2, e3, hv20, md19⟩ := hpp
        subst e1
        rw [e2, e3]
        clear e2 e3
        show Go g 0 0 sh M18 sz 27 [(0, vr r), (1, vl x1), (3, vi x3)] [vi v14]
        refine go_cSf (st2 := [vi (s_b (p_wc v14))]) (r := []) X k_Model_156 (m_isWord l D hv20) rfl rfl (by decide) (Nat.le_of_ble_eq_true rfl) d_Model_word_27 (by decide) (by decide) rfl ?_
        refine go_ifb_eq (tgt := 65) X d_Model_word_30 rfl (fun hq21 => ?_) (fun hq21 => ?_)
        · skip
          have hF22 := if_f hF17 (bnf hq21)
          refine go_lv (lv' := [(0, vr r), (1, vl x1), (3, vi x3)]) X [0, 1, 2] rfl ?_
          exact hJ65 x1 x3 S15 M18 hx1 hx3 md19 hF22
        · skip
          have hF23 := if_t hF17 hq21
          refine go_lload_n X d_Model_word_33 rfl rfl ?_
          refine go_aload_n X d_Model_word_34 rfl rfl ?_
          obtain ⟨v24, S25, hG26, hF27⟩ := bnd_t hF23
          refine go_cV (st2 := []) (r := [vl x1]) X k_Model_136 (a_here l D md19 hG26) md19.1.1 rfl rfl (by decide) (Nat.le_of_ble_eq_true rfl) d_Model_word_35 (by decide) (by decide) (fun v' sh' M28 sz' hpp => ?_)
          obtain ⟨e1, e2, e3, hv30, md29⟩ := hpp
          subst e1
          rw [e2, e3]
          clear e2 e3
          show Go g 0 0 sh M28 sz 38 [(0, vr r), (1, vl x1), (3, vi x3)] [vi v24, vl x1]
          refine go_cSf (st2 := [vi (p_low v24), vl x1]) (r := [vl x1]) X k_Model_116 (m_small l D hv30) rfl rfl (by decide) (Nat.le_of_ble_eq_true rfl) d_Model_word_38 (by decide) (by decide) rfl ?_
          refine go_i2l X d_Model_word_41 (rI_small hv30) ?_
          refine go_bipush (v := 8) X d_Model_word_42 (by decide) ?_
          refine go_iload_n X d_Model_word_44 rfl rfl ?_
          refine go_imul X d_Model_word_45 ?_
          obtain ⟨hc31, hF32⟩ := chk_t hF27
          refine go_lshl (z := l_shf (p_low v24) (8 * x3)) X d_Model_word_46 (Int64.ofInt_toInt _).symm ?_
          refine go_lor (z := l_orr x1 (l_shf (p_low v24) (8 * x3))) X d_Model_word_47 (Int64.ofInt_toInt _).symm ?_
          refine go_lstore_n (lv' := [(1, vl (l_orr x1 (l_shf (p_low v24) (8 * x3)))), (0, vr r), (3, vi x3)]) X d_Model_word_48 rfl (by decide) rfl ?_
          obtain ⟨hc33, hF34⟩ := chk_t hF32
          refine go_iinc (v := 1) (x := x3) (lv' := [(3, vi (x3 + 1)), (1, vl (l_orr x1 (l_shf (p_low v24) (8 * x3)))), (0, vr r)]) X d_Model_word_49 rfl (by decide) rfl ?_
          refine go_aload_n X d_Model_word_52 rfl rfl ?_
          refine go_dup X d_Model_word_53 rfl ?_
          refine go_get (v := vi (S25 0 17)) X f_Model_134 md29.1.1 rfl d_Model_word_54 (congrArg (s_v .int) ((md29.s 17).trans (rfl))) ?_
          refine go_iconst (v := 1) X d_Model_word_57 ?_
          refine go_iadd X d_Model_word_58 ?_
          obtain ⟨hc35, hF36⟩ := chk_t hF34
          refine go_put (x := ((S25 0 17) + 1)) (v := vi ((S25 0 17) + 1)) X f_Model_134 md29.1.1 rfl d_Model_word_59 rfl rfl rfl ?_
          have md37 : mq sh M0 (m_s M28 r 17 ((S25 0 17) + 1)) r (m_s S25 0 17 ((S25 0 17) + 1)) := md29.put0 (by decide) ((rg_S (by decide) (by decide) hc35))
          generalize m_s M28 r 17 ((S25 0 17) + 1) = M38 at md37 ⊢
          refine go_goto (tgt := 17) X d_Model_word_62 rfl ?_
          refine go_lv (lv' := [(0, vr r), (1, vl (l_orr x1 (l_shf (p_low v24) (8 * x3)))), (3, vi (x3 + 1))]) X [2, 1, 0] rfl ?_
          exact ih17 (l_orr x1 (l_shf (p_low v24) (8 * x3))) (x3 + 1) (m_s S25 0 17 ((S25 0 17) + 1)) M38 (rL_64 _) hc33 md37 hF36
  rw [A_word_e] at hF
  refine go_aload_n X d_Model_word_0 rfl rfl ?_
  refine go_get (v := vi (S 0 18)) X f_Model_140 h.1.1 rfl d_Model_word_1 (congrArg (s_v .boolean) ((h.s 18).trans (rfl))) ?_
  refine go_if_eq (tgt := 9) X d_Model_word_4 rfl (rI_z (h.gB 18 (by decide) (by decide))) (fun hq39 => ?_) (fun hq39 => ?_)
  · skip
    have hF40 := if_t hF hq39
    refine go_aload_n X d_Model_word_9 rfl rfl ?_
    obtain ⟨v41, S42, hG43, hF44⟩ := bnd_t hF40
    refine go_cV (st2 := []) (r := []) X k_Model_150 (a_blanks l D h hG43) h.1.1 rfl rfl (by decide) (Nat.le_of_ble_eq_true rfl) d_Model_word_10 (by decide) (by decide) (fun v' sh' M45 sz' hpp => ?_)
    obtain ⟨e1, e2, e3, md46⟩ := hpp
    subst e1
    rw [e2, e3]
    clear e2 e3
    show Go g 0 0 sh M45 sz 13 [(0, vr r)] []
    refine go_lconst (x := 0) X d_Model_word_13 (by decide) ?_
    refine go_lstore_n (lv' := [(1, vl 0), (0, vr r)]) X d_Model_word_14 rfl (by decide) rfl ?_
    refine go_iconst (v := 0) X d_Model_word_15 ?_
    refine go_istore_n (lv' := [(3, vi 0), (1, vl 0), (0, vr r)]) X d_Model_word_16 rfl (by decide) rfl ?_
    refine go_lv (lv' := [(0, vr r), (1, vl 0), (3, vi 0)]) X [2, 1, 0] rfl ?_
    exact hL17 N 0 0 S42 M45 (by decide) (by decide) md46 hF44
  · skip
    have hF48 := if_f hF hq39
    refine go_lconst (x := 0) X d_Model_word_7 (by decide) ?_
    exact go_lret X d_Model_word_8 rfl (by decide) (by decide) (ret_l hF48 (by decide) h)
def A_piece_j171 (N : Nat) (S : s_M) : rO := some (0, S)
theorem A_piece_j171_e (N : Nat) (S : s_M) : A_piece_j171 N S = (some (0, S)) := rfl
def A_piece_l123 (N : Nat) : Nat → Int → Int → s_M → rO
  | 0, _, _, _ => none
  | n + 1, x4, x5, S => if (S 0 18) = 0 then (if x4 < 0 then (A_piece_j171 N  S) else (chk (rI (54 + x4)) <| chk (0 ≤ (54 + x4) ∧ (54 + x4) < 85) <| if x5 < (S 3 (54 + x4)) then (chk (rI (54 + x4)) <| bnd (A_at N (54 + x4) x5 S) fun v16 S17 => bnd (A_feed N v16 S17) fun v23 S24 => chk (rI (x5 + 1)) <| (A_piece_l123 N n) x4 (x5 + 1) S24) else (A_piece_j171 N  S))) else (A_piece_j171 N  S)
theorem A_piece_l123_e (N : Nat) (n : Nat) (x4 x5 : Int) (S : s_M) : A_piece_l123 N (n + 1) x4 x5 S = (if (S 0 18) = 0 then (if x4 < 0 then (A_piece_j171 N  S) else (chk (rI (54 + x4)) <| chk (0 ≤ (54 + x4) ∧ (54 + x4) < 85) <| if x5 < (S 3 (54 + x4)) then (chk (rI (54 + x4)) <| bnd (A_at N (54 + x4) x5 S) fun v16 S17 => bnd (A_feed N v16 S17) fun v23 S24 => chk (rI (x5 + 1)) <| (A_piece_l123 N n) x4 (x5 + 1) S24) else (A_piece_j171 N  S))) else (A_piece_j171 N  S)) := rfl
def A_piece_j120 (N : Nat) (x4 : Int) (S : s_M) : rO := A_piece_l123 N N x4 0 S
theorem A_piece_j120_e (N : Nat) (x4 : Int) (S : s_M) : A_piece_j120 N x4 S = (A_piece_l123 N N x4 0 S) := rfl
def A_piece_j108 (N : Nat) (y0 : Int) (S : s_M) : rO := if y0 < 0 then (bnd (A_warn N 2 S) fun v35 S36 => A_piece_j120 N y0 S36) else (A_piece_j120 N y0 S)
theorem A_piece_j108_e (N : Nat) (y0 : Int) (S : s_M) : A_piece_j108 N y0 S = (if y0 < 0 then (bnd (A_warn N 2 S) fun v35 S36 => A_piece_j120 N y0 S36) else (A_piece_j120 N y0 S)) := rfl
def A_piece_j58 (N : Nat) (S : s_M) : rO := A_piece_j171 N  S
theorem A_piece_j58_e (N : Nat) (S : s_M) : A_piece_j58 N S = (A_piece_j171 N  S) := rfl
def A_piece_l18 (N : Nat) : Nat → Int → s_M → rO
  | 0, _, _ => none
  | n + 1, x2, S => if x2 < 9 then (bnd (A_here N S) fun v45 S46 => if (p_dig v45) = true then (bnd (A_here N S46) fun v55 S56 => bnd (A_feed N v55 S56) fun v62 S63 => chk (rI ((S63 0 17) + 1)) <| chk (rI (x2 + 1)) <| (A_piece_l18 N n) (x2 + 1) (m_s S63 0 17 ((S63 0 17) + 1))) else (A_piece_j58 N  S46)) else (A_piece_j58 N  S)
theorem A_piece_l18_e (N : Nat) (n : Nat) (x2 : Int) (S : s_M) : A_piece_l18 N (n + 1) x2 S = (if x2 < 9 then (bnd (A_here N S) fun v45 S46 => if (p_dig v45) = true then (bnd (A_here N S46) fun v55 S56 => bnd (A_feed N v55 S56) fun v62 S63 => chk (rI ((S63 0 17) + 1)) <| chk (rI (x2 + 1)) <| (A_piece_l18 N n) (x2 + 1) (m_s S63 0 17 ((S63 0 17) + 1))) else (A_piece_j58 N  S46)) else (A_piece_j58 N  S)) := rfl
def A_piece (N : Nat) (S : s_M) : rO := bnd (A_blanks N S) fun v75 S76 => bnd (A_here N S76) fun v82 S83 => if (p_dig v82) = true then (A_piece_l18 N N 0 S83) else (if v82 = 123 then (bnd (A_braced N S83) fun v121 S122 => A_piece_j171 N  S122) else (if v82 = 34 then (bnd (A_quoted N S83) fun v113 S114 => A_piece_j171 N  S114) else (bnd (A_word N S83) fun v95 S96 => if (S96 0 18) = 0 then (bnd (A_findString N v95 S96) fun v104 S105 => A_piece_j108 N v104 S105) else (A_piece_j108 N 0 S96))))
theorem A_piece_e (N : Nat) (S : s_M) : A_piece N S = (bnd (A_blanks N S) fun v75 S76 => bnd (A_here N S76) fun v82 S83 => if (p_dig v82) = true then (A_piece_l18 N N 0 S83) else (if v82 = 123 then (bnd (A_braced N S83) fun v121 S122 => A_piece_j171 N  S122) else (if v82 = 34 then (bnd (A_quoted N S83) fun v113 S114 => A_piece_j171 N  S114) else (bnd (A_word N S83) fun v95 S96 => if (S96 0 18) = 0 then (bnd (A_findString N v95 S96) fun v104 S105 => A_piece_j108 N v104 S105) else (A_piece_j108 N 0 S96))))) := rfl
set_option maxHeartbeats 4000000 in
set_option maxRecDepth 100000 in
theorem a_piece (l : Launch) (D : va_G) {sh : s_S} {M0 M : s_M} {sz r  : Int} {N : Nat} {S S0 : s_M} {v0 : Int} (h : mq sh M0 M r S) (hF : A_piece N S = some (v0, S0)) : Sp l D y_Model_piece prog_14_method_29_code 6 none 5 0 0 [vr r] sh M sz (fun v' sh' M' sz' => v' = none ∧ sh' = sh ∧ sz' = sz ∧ mq sh M0 M' r S0) := by
  have hr0 := h.1.2.1
  refine Sp.ofGo (own := "CiteForgeModel") (nm := "piece") (by decide) rfl rfl (Nat.le_of_ble_eq_true rfl) (lv := [(0, vr r)]) rfl ?_
  intro g X
  have hJ171 : ∀ (S1 M1 : s_M), mq sh M0 M1 r S1 → A_piece_j171 N S1 = some (v0, S0) → Go g 0 0 sh M1 sz 171 [(0, vr r)] [] := by
    intro S1 M1 hm hF
    rw [A_piece_j171_e] at hF
    exact go_vret X d_Model_piece_171 rfl (by decide) (by decide) (ret_v hF hm)
  have hL123 : ∀ (n123 : Nat) (x4 x5 : Int) (S1 M1 : s_M), rI x4 → rI x5 → mq sh M0 M1 r S1 → A_piece_l123 N n123 x4 x5 S1 = some (v0, S0) → Go g 0 0 sh M1 sz 123 [(0, vr r), (4, vi x4), (5, vi x5)] [] := by
    intro n123
    induction n123 with
    | zero => intro x4 x5 S1 M1 hx4 hx5 hm hF; cases hF
    | succ n123 ih123 =>
      intro x4 x5 S1 M1 hx4 hx5 hm hF
      rw [A_piece_l123_e] at hF
      refine go_aload_n X d_Model_piece_123 rfl rfl ?_
      refine go_get (v := vi (S1 0 18)) X f_Model_140 hm.1.1 rfl d_Model_piece_124 (congrArg (s_v .boolean) ((hm.s 18).trans (rfl))) ?_
      refine go_if_ne (tgt := 171) X d_Model_piece_127 rfl (rI_z (hm.gB 18 (by decide) (by decide))) (fun hq1 => ?_) (fun hq1 => ?_)
      · skip
        have hF2 := if_f hF hq1
        refine go_lv (lv' := [(0, vr r)]) X [0] rfl ?_
        exact hJ171  S1 M1  hm hF2
      · skip
        have hF3 := if_t hF hq1
        refine go_iload X d_Model_piece_130 rfl ?_
        refine go_if_lt (tgt := 171) X d_Model_piece_132 rfl hx4 (fun hq4 => ?_) (fun hq4 => ?_)
        · skip
          have hF5 := if_t hF3 hq4
          refine go_lv (lv' := [(0, vr r)]) X [0] rfl ?_
          exact hJ171  S1 M1  hm hF5
        · skip
          have hF6 := if_f hF3 (Int.not_lt.mpr hq4)
          refine go_iload X d_Model_piece_135 rfl ?_
          refine go_aload_n X d_Model_piece_137 rfl rfl ?_
          refine go_get (v := vr (r + 3)) X f_Model_16 hm.1.1 rfl d_Model_piece_138 (s_varr (hm.1.2.2 2 _ rfl).2 (by omega)) ?_
          refine go_bipush (v := 54) X d_Model_piece_141 (by decide) ?_
          refine go_iload X d_Model_piece_143 rfl ?_
          refine go_iadd X d_Model_piece_145 ?_
          obtain ⟨hc7, hF8⟩ := chk_t hF6
          obtain ⟨hc9, hF10⟩ := chk_t hF8
          refine go_iald X (hm.1.2.2 2 _ rfl).1 (by decide) hc9 d_Model_piece_146 ?_
          refine go_top (v' := vi (S1 3 (54 + x4))) X (congrArg (fun q => vi q) ((hm.a (by decide) (54 + x4)).trans (rfl))) ?_
          refine go_icmp_ge (tgt := 171) X d_Model_piece_147 rfl hx5 (hm.gA (by decide) (54 + x4)) (fun hq11 => ?_) (fun hq11 => ?_)
          · skip
            have hF12 := if_f hF10 (Int.not_lt.mpr hq11)
            refine go_lv (lv' := [(0, vr r)]) X [0] rfl ?_
            exact hJ171  S1 M1  hm hF12
          · skip
            have hF13 := if_t hF10 hq11
            refine go_aload_n X d_Model_piece_150 rfl rfl ?_
            refine go_aload_n X d_Model_piece_151 rfl rfl ?_
            refine go_bipush (v := 54) X d_Model_piece_152 (by decide) ?_
            refine go_iload X d_Model_piece_154 rfl ?_
            refine go_iadd X d_Model_piece_156 ?_
            obtain ⟨hc14, hF15⟩ := chk_t hF13
            refine go_iload X d_Model_piece_157 rfl ?_
            obtain ⟨v16, S17, hG18, hF19⟩ := bnd_t hF15
            refine go_cV (st2 := []) (r := [vr r]) X k_Model_99 (a_at l D hm hc14 hx5 hG18) hm.1.1 rfl rfl (by decide) (Nat.le_of_ble_eq_true rfl) d_Model_piece_159 (by decide) (by decide) (fun v' sh' M20 sz' hpp => ?_)
            obtain ⟨e1, e2, e3, hv22, md21⟩ := hpp
            subst e1
            rw [e2, e3]
            clear e2 e3
            show Go g 0 0 sh M20 sz 162 [(0, vr r), (4, vi x4), (5, vi x5)] [vi v16, vr r]
            obtain ⟨v23, S24, hG25, hF26⟩ := bnd_t hF19
            refine go_cV (st2 := []) (r := []) X k_Model_168 (a_feed l D md21 hv22 hG25) md21.1.1 rfl rfl (by decide) (Nat.le_of_ble_eq_true rfl) d_Model_piece_162 (by decide) (by decide) (fun v' sh' M27 sz' hpp => ?_)
            obtain ⟨e1, e2, e3, md28⟩ := hpp
            subst e1
            rw [e2, e3]
            clear e2 e3
            show Go g 0 0 sh M27 sz 165 [(0, vr r), (4, vi x4), (5, vi x5)] []
            obtain ⟨hc30, hF31⟩ := chk_t hF26
            refine go_iinc (v := 1) (x := x5) (lv' := [(5, vi (x5 + 1)), (0, vr r), (4, vi x4)]) X d_Model_piece_165 rfl (by decide) rfl ?_
            refine go_goto (tgt := 123) X d_Model_piece_168 rfl ?_
            refine go_lv (lv' := [(0, vr r), (4, vi x4), (5, vi (x5 + 1))]) X [1, 2, 0] rfl ?_
            exact ih123 x4 (x5 + 1) S24 M27 hx4 hc30 md28 hF31
  have hJ120 : ∀ (x4 : Int) (S1 M1 : s_M), rI x4 → mq sh M0 M1 r S1 → A_piece_j120 N x4 S1 = some (v0, S0) → Go g 0 0 sh M1 sz 120 [(0, vr r), (4, vi x4)] [] := by
    intro x4 S1 M1 hx4 hm hF
    rw [A_piece_j120_e] at hF
    refine go_iconst (v := 0) X d_Model_piece_120 ?_
    refine go_istore (lv' := [(5, vi 0), (0, vr r), (4, vi x4)]) X d_Model_piece_121 (by decide) rfl ?_
    refine go_lv (lv' := [(0, vr r), (4, vi x4), (5, vi 0)]) X [1, 2, 0] rfl ?_
    exact hL123 N x4 0 S1 M1 hx4 (by decide) hm hF
  have hJ108 : ∀ (y0 : Int) (S1 M1 : s_M), rI y0 → mq sh M0 M1 r S1 → A_piece_j108 N y0 S1 = some (v0, S0) → Go g 0 0 sh M1 sz 108 [(0, vr r)] [vi y0] := by
    intro y0 S1 M1 hy0 hm hF
    rw [A_piece_j108_e] at hF
    refine go_istore (lv' := [(4, vi y0), (0, vr r)]) X d_Model_piece_108 (by decide) rfl ?_
    refine go_iload X d_Model_piece_110 rfl ?_
    refine go_if_ge (tgt := 120) X d_Model_piece_112 rfl hy0 (fun hq32 => ?_) (fun hq32 => ?_)
    · skip
      have hF33 := if_f hF (Int.not_lt.mpr hq32)
      refine go_lv (lv' := [(0, vr r), (4, vi y0)]) X [1, 0] rfl ?_
      exact hJ120 y0 S1 M1 hy0 hm hF33
    · skip
      have hF34 := if_t hF hq32
      refine go_aload_n X d_Model_piece_115 rfl rfl ?_
      refine go_iconst (v := 2) X d_Model_piece_116 ?_
      obtain ⟨v35, S36, hG37, hF38⟩ := bnd_t hF34
      refine go_cV (st2 := []) (r := []) X k_Model_144 (a_warn l D hm (by decide) hG37) hm.1.1 rfl rfl (by decide) (Nat.le_of_ble_eq_true rfl) d_Model_piece_117 (by decide) (by decide) (fun v' sh' M39 sz' hpp => ?_)
      obtain ⟨e1, e2, e3, md40⟩ := hpp
      subst e1
      rw [e2, e3]
      clear e2 e3
      show Go g 0 0 sh M39 sz 120 [(4, vi y0), (0, vr r)] []
      refine go_lv (lv' := [(0, vr r), (4, vi y0)]) X [1, 0] rfl ?_
      exact hJ120 y0 S36 M39 hy0 md40 hF38
  have hJ58 : ∀ (S1 M1 : s_M), mq sh M0 M1 r S1 → A_piece_j58 N S1 = some (v0, S0) → Go g 0 0 sh M1 sz 58 [(0, vr r)] [] := by
    intro S1 M1 hm hF
    rw [A_piece_j58_e] at hF
    refine go_goto (tgt := 171) X d_Model_piece_58 rfl ?_
    refine go_lv (lv' := [(0, vr r)]) X [0] rfl ?_
    exact hJ171  S1 M1  hm hF
  have hL18 : ∀ (n18 : Nat) (x2 : Int) (S1 M1 : s_M), rI x2 → mq sh M0 M1 r S1 → A_piece_l18 N n18 x2 S1 = some (v0, S0) → Go g 0 0 sh M1 sz 18 [(0, vr r), (2, vi x2)] [] := by
    intro n18
    induction n18 with
    | zero => intro x2 S1 M1 hx2 hm hF; cases hF
    | succ n18 ih18 =>
      intro x2 S1 M1 hx2 hm hF
      rw [A_piece_l18_e] at hF
      refine go_iload_n X d_Model_piece_18 rfl rfl ?_
      refine go_bipush (v := 9) X d_Model_piece_19 (by decide) ?_
      refine go_icmp_ge (tgt := 58) X d_Model_piece_21 rfl hx2 (by decide) (fun hq42 => ?_) (fun hq42 => ?_)
      · skip
        have hF43 := if_f hF (Int.not_lt.mpr hq42)
        refine go_lv (lv' := [(0, vr r)]) X [0] rfl ?_
        exact hJ58  S1 M1  hm hF43
      · skip
        have hF44 := if_t hF hq42
        refine go_aload_n X d_Model_piece_24 rfl rfl ?_
        obtain ⟨v45, S46, hG47, hF48⟩ := bnd_t hF44
        refine go_cV (st2 := []) (r := []) X k_Model_136 (a_here l D hm hG47) hm.1.1 rfl rfl (by decide) (Nat.le_of_ble_eq_true rfl) d_Model_piece_25 (by decide) (by decide) (fun v' sh' M49 sz' hpp => ?_)
        obtain ⟨e1, e2, e3, hv51, md50⟩ := hpp
        subst e1
        rw [e2, e3]
        clear e2 e3
        show Go g 0 0 sh M49 sz 28 [(0, vr r), (2, vi x2)] [vi v45]
        refine go_cSf (st2 := [vi (s_b (p_dig v45))]) (r := []) X k_Model_111 (m_digit l D hv51) rfl rfl (by decide) (Nat.le_of_ble_eq_true rfl) d_Model_piece_28 (by decide) (by decide) rfl ?_
        refine go_ifb_eq (tgt := 58) X d_Model_piece_31 rfl (fun hq52 => ?_) (fun hq52 => ?_)
        · skip
          have hF53 := if_f hF48 (bnf hq52)
          refine go_lv (lv' := [(0, vr r)]) X [0] rfl ?_
          exact hJ58  S46 M49  md50 hF53
        · skip
          have hF54 := if_t hF48 hq52
          refine go_aload_n X d_Model_piece_34 rfl rfl ?_
          refine go_aload_n X d_Model_piece_35 rfl rfl ?_
          obtain ⟨v55, S56, hG57, hF58⟩ := bnd_t hF54
          refine go_cV (st2 := []) (r := [vr r]) X k_Model_136 (a_here l D md50 hG57) md50.1.1 rfl rfl (by decide) (Nat.le_of_ble_eq_true rfl) d_Model_piece_36 (by decide) (by decide) (fun v' sh' M59 sz' hpp => ?_)
          obtain ⟨e1, e2, e3, hv61, md60⟩ := hpp
          subst e1
          rw [e2, e3]
          clear e2 e3
          show Go g 0 0 sh M59 sz 39 [(0, vr r), (2, vi x2)] [vi v55, vr r]
          obtain ⟨v62, S63, hG64, hF65⟩ := bnd_t hF58
          refine go_cV (st2 := []) (r := []) X k_Model_168 (a_feed l D md60 hv61 hG64) md60.1.1 rfl rfl (by decide) (Nat.le_of_ble_eq_true rfl) d_Model_piece_39 (by decide) (by decide) (fun v' sh' M66 sz' hpp => ?_)
          obtain ⟨e1, e2, e3, md67⟩ := hpp
          subst e1
          rw [e2, e3]
          clear e2 e3
          show Go g 0 0 sh M66 sz 42 [(0, vr r), (2, vi x2)] []
          refine go_aload_n X d_Model_piece_42 rfl rfl ?_
          refine go_dup X d_Model_piece_43 rfl ?_
          refine go_get (v := vi (S63 0 17)) X f_Model_134 md67.1.1 rfl d_Model_piece_44 (congrArg (s_v .int) ((md67.s 17).trans (rfl))) ?_
          refine go_iconst (v := 1) X d_Model_piece_47 ?_
          refine go_iadd X d_Model_piece_48 ?_
          obtain ⟨hc69, hF70⟩ := chk_t hF65
          refine go_put (x := ((S63 0 17) + 1)) (v := vi ((S63 0 17) + 1)) X f_Model_134 md67.1.1 rfl d_Model_piece_49 rfl rfl rfl ?_
          have md71 : mq sh M0 (m_s M66 r 17 ((S63 0 17) + 1)) r (m_s S63 0 17 ((S63 0 17) + 1)) := md67.put0 (by decide) ((rg_S (by decide) (by decide) hc69))
          generalize m_s M66 r 17 ((S63 0 17) + 1) = M72 at md71 ⊢
          obtain ⟨hc73, hF74⟩ := chk_t hF70
          refine go_iinc (v := 1) (x := x2) (lv' := [(2, vi (x2 + 1)), (0, vr r)]) X d_Model_piece_52 rfl (by decide) rfl ?_
          refine go_goto (tgt := 18) X d_Model_piece_55 rfl ?_
          refine go_lv (lv' := [(0, vr r), (2, vi (x2 + 1))]) X [1, 0] rfl ?_
          exact ih18 (x2 + 1) (m_s S63 0 17 ((S63 0 17) + 1)) M72 hc73 md71 hF74
  rw [A_piece_e] at hF
  refine go_aload_n X d_Model_piece_0 rfl rfl ?_
  obtain ⟨v75, S76, hG77, hF78⟩ := bnd_t hF
  refine go_cV (st2 := []) (r := []) X k_Model_150 (a_blanks l D h hG77) h.1.1 rfl rfl (by decide) (Nat.le_of_ble_eq_true rfl) d_Model_piece_1 (by decide) (by decide) (fun v' sh' M79 sz' hpp => ?_)
  obtain ⟨e1, e2, e3, md80⟩ := hpp
  subst e1
  rw [e2, e3]
  clear e2 e3
  show Go g 0 0 sh M79 sz 4 [(0, vr r)] []
  refine go_aload_n X d_Model_piece_4 rfl rfl ?_
  obtain ⟨v82, S83, hG84, hF85⟩ := bnd_t hF78
  refine go_cV (st2 := []) (r := []) X k_Model_136 (a_here l D md80 hG84) md80.1.1 rfl rfl (by decide) (Nat.le_of_ble_eq_true rfl) d_Model_piece_5 (by decide) (by decide) (fun v' sh' M86 sz' hpp => ?_)
  obtain ⟨e1, e2, e3, hv88, md87⟩ := hpp
  subst e1
  rw [e2, e3]
  clear e2 e3
  show Go g 0 0 sh M86 sz 8 [(0, vr r)] [vi v82]
  refine go_istore_n (lv' := [(1, vi v82), (0, vr r)]) X d_Model_piece_8 rfl (by decide) rfl ?_
  refine go_iload_n X d_Model_piece_9 rfl rfl ?_
  refine go_cSf (st2 := [vi (s_b (p_dig v82))]) (r := []) X k_Model_111 (m_digit l D hv88) rfl rfl (by decide) (Nat.le_of_ble_eq_true rfl) d_Model_piece_10 (by decide) (by decide) rfl ?_
  refine go_ifb_eq (tgt := 61) X d_Model_piece_13 rfl (fun hq89 => ?_) (fun hq89 => ?_)
  · skip
    have hF90 := if_f hF85 (bnf hq89)
    refine go_iload_n X d_Model_piece_61 rfl rfl ?_
    refine go_bipush (v := 123) X d_Model_piece_62 (by decide) ?_
    refine go_icmp_ne (tgt := 74) X d_Model_piece_64 rfl hv88 (by decide) (fun hq91 => ?_) (fun hq91 => ?_)
    · skip
      have hF92 := if_f hF90 hq91
      refine go_iload_n X d_Model_piece_74 rfl rfl ?_
      refine go_bipush (v := 34) X d_Model_piece_75 (by decide) ?_
      refine go_icmp_ne (tgt := 87) X d_Model_piece_77 rfl hv88 (by decide) (fun hq93 => ?_) (fun hq93 => ?_)
      · skip
        have hF94 := if_f hF92 hq93
        refine go_aload_n X d_Model_piece_87 rfl rfl ?_
        obtain ⟨v95, S96, hG97, hF98⟩ := bnd_t hF94
        refine go_cV (st2 := []) (r := []) X k_Model_177 (a_word l D md87 hG97) md87.1.1 rfl rfl (by decide) (Nat.le_of_ble_eq_true rfl) d_Model_piece_88 (by decide) (by decide) (fun v' sh' M99 sz' hpp => ?_)
        obtain ⟨e1, e2, e3, hv101, md100⟩ := hpp
        subst e1
        rw [e2, e3]
        clear e2 e3
        show Go g 0 0 sh M99 sz 91 [(1, vi v82), (0, vr r)] [vl v95]
        refine go_lstore_n (lv' := [(2, vl v95), (1, vi v82), (0, vr r)]) X d_Model_piece_91 rfl (by decide) rfl ?_
        refine go_aload_n X d_Model_piece_92 rfl rfl ?_
        refine go_get (v := vi (S96 0 18)) X f_Model_140 md100.1.1 rfl d_Model_piece_93 (congrArg (s_v .boolean) ((md100.s 18).trans (rfl))) ?_
        refine go_if_eq (tgt := 103) X d_Model_piece_96 rfl (rI_z (md100.gB 18 (by decide) (by decide))) (fun hq102 => ?_) (fun hq102 => ?_)
        · skip
          have hF103 := if_t hF98 hq102
          refine go_aload_n X d_Model_piece_103 rfl rfl ?_
          refine go_lload_n X d_Model_piece_104 rfl rfl ?_
          obtain ⟨v104, S105, hG106, hF107⟩ := bnd_t hF103
          refine go_cV (st2 := []) (r := []) X k_Model_181 (a_findString l D md100 hv101 hG106) md100.1.1 rfl rfl (by decide) (Nat.le_of_ble_eq_true rfl) d_Model_piece_105 (by decide) (by decide) (fun v' sh' M108 sz' hpp => ?_)
          obtain ⟨e1, e2, e3, hv110, md109⟩ := hpp
          subst e1
          rw [e2, e3]
          clear e2 e3
          show Go g 0 0 sh M108 sz 108 [(2, vl v95), (1, vi v82), (0, vr r)] [vi v104]
          refine go_lv (lv' := [(0, vr r)]) X [2] rfl ?_
          exact hJ108 v104 S105 M108 hv110 md109 hF107
        · skip
          have hF111 := if_f hF98 hq102
          refine go_iconst (v := 0) X d_Model_piece_99 ?_
          refine go_goto (tgt := 108) X d_Model_piece_100 rfl ?_
          refine go_lv (lv' := [(0, vr r)]) X [2] rfl ?_
          exact hJ108 0 S96 M99 (by decide) md100 hF111
      · skip
        have hF112 := if_t hF92 hq93
        refine go_aload_n X d_Model_piece_80 rfl rfl ?_
        obtain ⟨v113, S114, hG115, hF116⟩ := bnd_t hF112
        refine go_cV (st2 := []) (r := []) X k_Model_174 (a_quoted l D md87 hG115) md87.1.1 rfl rfl (by decide) (Nat.le_of_ble_eq_true rfl) d_Model_piece_81 (by decide) (by decide) (fun v' sh' M117 sz' hpp => ?_)
        obtain ⟨e1, e2, e3, md118⟩ := hpp
        subst e1
        rw [e2, e3]
        clear e2 e3
        show Go g 0 0 sh M117 sz 84 [(1, vi v82), (0, vr r)] []
        refine go_goto (tgt := 171) X d_Model_piece_84 rfl ?_
        refine go_lv (lv' := [(0, vr r)]) X [1] rfl ?_
        exact hJ171  S114 M117  md118 hF116
    · skip
      have hF120 := if_t hF90 hq91
      refine go_aload_n X d_Model_piece_67 rfl rfl ?_
      obtain ⟨v121, S122, hG123, hF124⟩ := bnd_t hF120
      refine go_cV (st2 := []) (r := []) X k_Model_171 (a_braced l D md87 hG123) md87.1.1 rfl rfl (by decide) (Nat.le_of_ble_eq_true rfl) d_Model_piece_68 (by decide) (by decide) (fun v' sh' M125 sz' hpp => ?_)
      obtain ⟨e1, e2, e3, md126⟩ := hpp
      subst e1
      rw [e2, e3]
      clear e2 e3
      show Go g 0 0 sh M125 sz 71 [(1, vi v82), (0, vr r)] []
      refine go_goto (tgt := 171) X d_Model_piece_71 rfl ?_
      refine go_lv (lv' := [(0, vr r)]) X [1] rfl ?_
      exact hJ171  S122 M125  md126 hF124
  · skip
    have hF128 := if_t hF85 hq89
    refine go_iconst (v := 0) X d_Model_piece_16 ?_
    refine go_istore_n (lv' := [(2, vi 0), (1, vi v82), (0, vr r)]) X d_Model_piece_17 rfl (by decide) rfl ?_
    refine go_lv (lv' := [(0, vr r), (2, vi 0)]) X [2, 0] rfl ?_
    exact hL18 N 0 S83 M86 (by decide) md87 hF128
