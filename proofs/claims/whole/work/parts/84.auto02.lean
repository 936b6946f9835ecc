def A_list_l187 (N : Nat) : Nat → Int → s_M → rO
  | 0, _, _ => none
  | n + 1, x3, S => if x3 < 8 then (chk (rI (62 + x3)) <| bnd (A_clearText N (62 + x3) S) fun v6 S7 => chk (rI (x3 + 1)) <| (A_list_l187 N n) (x3 + 1) S7) else (some (S 0 15, S))
theorem A_list_l187_e (N : Nat) (n : Nat) (x3 : Int) (S : s_M) : A_list_l187 N (n + 1) x3 S = (if x3 < 8 then (chk (rI (62 + x3)) <| bnd (A_clearText N (62 + x3) S) fun v6 S7 => chk (rI (x3 + 1)) <| (A_list_l187 N n) (x3 + 1) S7) else (some (S 0 15, S))) := rfl
def A_list_j179 (N : Nat) (k88 : Int → Int → Int → s_M → rO) (x1 x2 x3 : Int) (S : s_M) : rO := chk (rI (x3 + 1)) <| k88 x1 x2 (x3 + 1) S
theorem A_list_j179_e (N : Nat) (k88 : Int → Int → Int → s_M → rO) (x1 x2 x3 : Int) (S : s_M) : A_list_j179 N k88 x1 x2 x3 S = (chk (rI (x3 + 1)) <| k88 x1 x2 (x3 + 1) S) := rfl
def A_list_l102 (N : Nat) (k88 : Int → Int → Int → s_M → rO) : Nat → Int → Int → Int → Int → Int → s_M → rO
  | 0, _, _, _, _, _, _ => none
  | n + 1, x1, x2, x3, x4, x5, S => if x5 < x2 then (chk (0 ≤ x5 ∧ x5 < 8) <| bnd (A_refers N (S 11 x5) S) fun v43 S44 => chk (0 ≤ x3 ∧ x3 < 9) <| chk (rI (x4 + (if v43 = (S44 5 x3) then (1 : Int) else 0))) <| chk (rI (x5 + 1)) <| (A_list_l102 N k88 n) x1 x2 x3 (x4 + (if v43 = (S44 5 x3) then (1 : Int) else 0)) (x5 + 1) S44) else (if x4 < x1 then (A_list_j179 N k88 x1 x2 x3 S) else (bnd (A_isListed N x3 S) fun v22 S23 => if v22 = 0 then (chk (0 ≤ (S23 0 15) ∧ (S23 0 15) < 8) <| chk (rI ((S23 0 15) + 1)) <| A_list_j179 N k88 x1 x2 x3 (m_s (m_s S23 11 (S23 0 15) x3) 0 15 ((S23 0 15) + 1))) else (A_list_j179 N k88 x1 x2 x3 S23)))
theorem A_list_l102_e (N : Nat) (k88 : Int → Int → Int → s_M → rO) (n : Nat) (x1 x2 x3 x4 x5 : Int) (S : s_M) : A_list_l102 N k88 (n + 1) x1 x2 x3 x4 x5 S = (if x5 < x2 then (chk (0 ≤ x5 ∧ x5 < 8) <| bnd (A_refers N (S 11 x5) S) fun v43 S44 => chk (0 ≤ x3 ∧ x3 < 9) <| chk (rI (x4 + (if v43 = (S44 5 x3) then (1 : Int) else 0))) <| chk (rI (x5 + 1)) <| (A_list_l102 N k88 n) x1 x2 x3 (x4 + (if v43 = (S44 5 x3) then (1 : Int) else 0)) (x5 + 1) S44) else (if x4 < x1 then (A_list_j179 N k88 x1 x2 x3 S) else (bnd (A_isListed N x3 S) fun v22 S23 => if v22 = 0 then (chk (0 ≤ (S23 0 15) ∧ (S23 0 15) < 8) <| chk (rI ((S23 0 15) + 1)) <| A_list_j179 N k88 x1 x2 x3 (m_s (m_s S23 11 (S23 0 15) x3) 0 15 ((S23 0 15) + 1))) else (A_list_j179 N k88 x1 x2 x3 S23)))) := rfl
def A_list_l88 (N : Nat) : Nat → Int → Int → Int → s_M → rO
  | 0, _, _, _, _ => none
  | n + 1, x1, x2, x3, S => if x3 < (S 0 6) then (A_list_l102 N (A_list_l88 N n) N x1 x2 x3 0 0 S) else (A_list_l187 N N 0 S)
theorem A_list_l88_e (N : Nat) (n : Nat) (x1 x2 x3 : Int) (S : s_M) : A_list_l88 N (n + 1) x1 x2 x3 S = (if x3 < (S 0 6) then (A_list_l102 N (A_list_l88 N n) N x1 x2 x3 0 0 S) else (A_list_l187 N N 0 S)) := rfl
def A_list_j75 (N : Nat) (k23 : Int → Int → s_M → rO) (x1 x2 : Int) (S : s_M) : rO := chk (rI (x2 + 1)) <| k23 x1 (x2 + 1) S
theorem A_list_j75_e (N : Nat) (k23 : Int → Int → s_M → rO) (x1 x2 : Int) (S : s_M) : A_list_j75 N k23 x1 x2 S = (chk (rI (x2 + 1)) <| k23 x1 (x2 + 1) S) := rfl
def A_list_l23 (N : Nat) : Nat → Int → Int → s_M → rO
  | 0, _, _, _ => none
  | n + 1, x1, x2, S => if x2 < (S 0 13) then (chk (0 ≤ x2 ∧ x2 < 10) <| bnd (A_findKey N (S 10 x2) S) fun v68 S69 => if v68 < 0 then (bnd (A_warn N 6 S69) fun v86 S87 => A_list_j75 N (A_list_l23 N n) x1 x2 S87) else (chk (0 ≤ (S69 0 15) ∧ (S69 0 15) < 8) <| chk (rI ((S69 0 15) + 1)) <| A_list_j75 N (A_list_l23 N n) x1 x2 (m_s (m_s S69 11 (S69 0 15) v68) 0 15 ((S69 0 15) + 1)))) else (A_list_l88 N N x1 (S 0 15) 0 S)
theorem A_list_l23_e (N : Nat) (n : Nat) (x1 x2 : Int) (S : s_M) : A_list_l23 N (n + 1) x1 x2 S = (if x2 < (S 0 13) then (chk (0 ≤ x2 ∧ x2 < 10) <| bnd (A_findKey N (S 10 x2) S) fun v68 S69 => if v68 < 0 then (bnd (A_warn N 6 S69) fun v86 S87 => A_list_j75 N (A_list_l23 N n) x1 x2 S87) else (chk (0 ≤ (S69 0 15) ∧ (S69 0 15) < 8) <| chk (rI ((S69 0 15) + 1)) <| A_list_j75 N (A_list_l23 N n) x1 x2 (m_s (m_s S69 11 (S69 0 15) v68) 0 15 ((S69 0 15) + 1)))) else (A_list_l88 N N x1 (S 0 15) 0 S)) := rfl
def A_list (N : Nat) (x1 : Int) (S : s_M) : rO := if x1 < 1 then (bnd (A_fail N 1 (m_s S 0 0 0)) fun v100 S101 => some (v100, S101)) else (A_list_l23 N N x1 0 (m_s (m_s S 0 0 0) 0 15 0))
theorem A_list_e (N : Nat) (x1 : Int) (S : s_M) : A_list N x1 S = (if x1 < 1 then (bnd (A_fail N 1 (m_s S 0 0 0)) fun v100 S101 => some (v100, S101)) else (A_list_l23 N N x1 0 (m_s (m_s S 0 0 0) 0 15 0))) := rfl
set_option maxHeartbeats 4000000 in
set_option maxRecDepth 100000 in
theorem a_list (l : Launch) (D : va_G) {sh : s_S} {M0 M : s_M} {sz r x1 : Int} {N : Nat} {S S0 : s_M} {v0 : Int} (h : mq sh M0 M r S) (hx1 : rI x1) (hF : A_list N x1 S = some (v0, S0)) : Sp l D y_Model_list prog_14_method_41_code 6 (some .int) 5 0 0 [vr r, vi x1] sh M sz (fun v' sh' M' sz' => v' = some (vi v0) ∧ sh' = sh ∧ sz' = sz ∧ rI v0 ∧ mq sh M0 M' r S0) := by
  have hr0 := h.1.2.1
  refine Sp.ofGo (own := "CiteForgeModel") (nm := "list") (by decide) rfl rfl (Nat.le_of_ble_eq_true rfl) (lv := [(0, vr r), (1, vi x1)]) rfl ?_
  intro g X
  have hL187 : ∀ (n187 : Nat) (x3 : Int) (S1 M1 : s_M), rI x3 → mq sh M0 M1 r S1 → A_list_l187 N n187 x3 S1 = some (v0, S0) → Go g 0 0 sh M1 sz 187 [(0, vr r), (3, vi x3)] [] := by
    intro n187
    induction n187 with
    | zero => intro x3 S1 M1 hx3 hm hF; cases hF
    | succ n187 ih187 =>
      intro x3 S1 M1 hx3 hm hF
      rw [A_list_l187_e] at hF
      refine go_iload_n X d_Model_list_187 rfl rfl ?_
      refine go_bipush (v := 8) X d_Model_list_188 (by decide) ?_
      refine go_icmp_ge (tgt := 207) X d_Model_list_190 rfl hx3 (by decide) (fun hq1 => ?_) (fun hq1 => ?_)
      · skip
        have hF2 := if_f hF (Int.not_lt.mpr hq1)
        refine go_aload_n X d_Model_list_207 rfl rfl ?_
        refine go_get (v := vi (S1 0 15)) X f_Model_210 hm.1.1 rfl d_Model_list_208 (congrArg (s_v .int) ((hm.s 15).trans (rfl))) ?_
        exact go_iret X d_Model_list_211 rfl rfl (by decide) (by decide) (ret_i hF2 (hm.gS 15 (by decide) (by decide)) hm)
      · skip
        have hF3 := if_t hF hq1
        refine go_aload_n X d_Model_list_193 rfl rfl ?_
        refine go_bipush (v := 62) X d_Model_list_194 (by decide) ?_
        refine go_iload_n X d_Model_list_196 rfl rfl ?_
        refine go_iadd X d_Model_list_197 ?_
        obtain ⟨hc4, hF5⟩ := chk_t hF3
        obtain ⟨v6, S7, hG8, hF9⟩ := bnd_t hF5
        refine go_cV (st2 := []) (r := []) X k_Model_120 (a_clearText l D hm hc4 hG8) hm.1.1 rfl rfl (by decide) (Nat.le_of_ble_eq_true rfl) d_Model_list_198 (by decide) (by decide) (fun v' sh' M10 sz' hpp => ?_)
        obtain ⟨e1, e2, e3, md11⟩ := hpp
        subst e1
        rw [e2, e3]
        clear e2 e3
        show Go g 0 0 sh M10 sz 201 [(0, vr r), (3, vi x3)] []
        obtain ⟨hc13, hF14⟩ := chk_t hF9
        refine go_iinc (v := 1) (x := x3) (lv' := [(3, vi (x3 + 1)), (0, vr r)]) X d_Model_list_201 rfl (by decide) rfl ?_
        refine go_goto (tgt := 187) X d_Model_list_204 rfl ?_
        refine go_lv (lv' := [(0, vr r), (3, vi (x3 + 1))]) X [1, 0] rfl ?_
        exact ih187 (x3 + 1) S7 M10 hc13 md11 hF14
  have hL88 : ∀ (n88 : Nat) (x1 x2 x3 : Int) (S1 M1 : s_M), rI x1 → rI x2 → rI x3 → mq sh M0 M1 r S1 → A_list_l88 N n88 x1 x2 x3 S1 = some (v0, S0) → Go g 0 0 sh M1 sz 88 [(0, vr r), (1, vi x1), (2, vi x2), (3, vi x3)] [] := by
    intro n88
    induction n88 with
    | zero => intro x1 x2 x3 S1 M1 hx1 hx2 hx3 hm hF; cases hF
    | succ n88 ih88 =>
      have hJ179 : ∀ (x1 x2 x3 : Int) (S1 M1 : s_M), rI x1 → rI x2 → rI x3 → mq sh M0 M1 r S1 → A_list_j179 N (A_list_l88 N n88) x1 x2 x3 S1 = some (v0, S0) → Go g 0 0 sh M1 sz 179 [(0, vr r), (1, vi x1), (2, vi x2), (3, vi x3)] [] := by
        intro x1 x2 x3 S1 M1 hx1 hx2 hx3 hm hF
        rw [A_list_j179_e] at hF
        obtain ⟨hc15, hF16⟩ := chk_t hF
        refine go_iinc (v := 1) (x := x3) (lv' := [(3, vi (x3 + 1)), (0, vr r), (1, vi x1), (2, vi x2)]) X d_Model_list_179 rfl (by decide) rfl ?_
        refine go_goto (tgt := 88) X d_Model_list_182 rfl ?_
        refine go_lv (lv' := [(0, vr r), (1, vi x1), (2, vi x2), (3, vi (x3 + 1))]) X [1, 2, 3, 0] rfl ?_
        exact ih88 x1 x2 (x3 + 1) S1 M1 hx1 hx2 hc15 hm hF16
      have hL102 : ∀ (n102 : Nat) (x1 x2 x3 x4 x5 : Int) (S1 M1 : s_M), rI x1 → rI x2 → rI x3 → rI x4 → rI x5 → mq sh M0 M1 r S1 → A_list_l102 N (A_list_l88 N n88) n102 x1 x2 x3 x4 x5 S1 = some (v0, S0) → Go g 0 0 sh M1 sz 102 [(0, vr r), (1, vi x1), (2, vi x2), (3, vi x3), (4, vi x4), (5, vi x5)] [] := by
        intro n102
        induction n102 with
        | zero => intro x1 x2 x3 x4 x5 S1 M1 hx1 hx2 hx3 hx4 hx5 hm hF; cases hF
        | succ n102 ih102 =>
          intro x1 x2 x3 x4 x5 S1 M1 hx1 hx2 hx3 hx4 hx5 hm hF
          rw [A_list_l102_e] at hF
          refine go_iload X d_Model_list_102 rfl ?_
          refine go_iload_n X d_Model_list_104 rfl rfl ?_
          refine go_icmp_ge (tgt := 145) X d_Model_list_105 rfl hx5 hx2 (fun hq17 => ?_) (fun hq17 => ?_)
          · skip
            have hF18 := if_f hF (Int.not_lt.mpr hq17)
            refine go_iload X d_Model_list_145 rfl ?_
            refine go_iload_n X d_Model_list_147 rfl rfl ?_
            refine go_icmp_lt (tgt := 179) X d_Model_list_148 rfl hx4 hx1 (fun hq19 => ?_) (fun hq19 => ?_)
            · skip
              have hF20 := if_t hF18 hq19
              refine go_lv (lv' := [(0, vr r), (1, vi x1), (2, vi x2), (3, vi x3)]) X [0, 1, 2, 3] rfl ?_
              exact hJ179 x1 x2 x3 S1 M1 hx1 hx2 hx3 hm hF20
            · skip
              have hF21 := if_f hF18 (Int.not_lt.mpr hq19)
              refine go_aload_n X d_Model_list_151 rfl rfl ?_
              refine go_iload_n X d_Model_list_152 rfl rfl ?_
              obtain ⟨v22, S23, hG24, hF25⟩ := bnd_t hF21
              refine go_cV (st2 := []) (r := []) X k_Model_240 (a_isListed l D hm hx3 hG24) hm.1.1 rfl rfl (by decide) (Nat.le_of_ble_eq_true rfl) d_Model_list_153 (by decide) (by decide) (fun v' sh' M26 sz' hpp => ?_)
              obtain ⟨e1, e2, e3, hv28, md27⟩ := hpp
              subst e1
              rw [e2, e3]
              clear e2 e3
              show Go g 0 0 sh M26 sz 156 [(0, vr r), (1, vi x1), (2, vi x2), (3, vi x3), (4, vi x4), (5, vi x5)] [vi v22]
              refine go_if_ne (tgt := 179) X d_Model_list_156 rfl hv28 (fun hq29 => ?_) (fun hq29 => ?_)
              · skip
                have hF30 := if_f hF25 hq29
                refine go_lv (lv' := [(0, vr r), (1, vi x1), (2, vi x2), (3, vi x3)]) X [0, 1, 2, 3] rfl ?_
                exact hJ179 x1 x2 x3 S23 M26 hx1 hx2 hx3 md27 hF30
              · skip
                have hF31 := if_t hF25 hq29
                refine go_aload_n X d_Model_list_159 rfl rfl ?_
                refine go_get (v := vr (r + 11)) X f_Model_41 md27.1.1 rfl d_Model_list_160 (s_varr (md27.1.2.2 10 _ rfl).2 (by omega)) ?_
                refine go_aload_n X d_Model_list_163 rfl rfl ?_
                refine go_get (v := vi (S23 0 15)) X f_Model_210 md27.1.1 rfl d_Model_list_164 (congrArg (s_v .int) ((md27.s 15).trans (rfl))) ?_
                refine go_iload_n X d_Model_list_167 rfl rfl ?_
                obtain ⟨hc32, hF33⟩ := chk_t hF31
                refine go_iast (x := x3) X (md27.1.2.2 10 _ rfl).1 (by decide) hc32 d_Model_list_168 ?_
                have md34 : mq sh M0 (m_s M26 (r + 11) (S23 0 15) x3) r (m_s S23 11 (S23 0 15) x3) := md27.put (by decide) ((rg_A (by decide) hx3))
                generalize m_s M26 (r + 11) (S23 0 15) x3 = M35 at md34 ⊢
                refine go_aload_n X d_Model_list_169 rfl rfl ?_
                refine go_dup X d_Model_list_170 rfl ?_
                refine go_get (v := vi (S23 0 15)) X f_Model_210 md34.1.1 rfl d_Model_list_171 (congrArg (s_v .int) ((md34.s 15).trans ((m_sk (by decide)).trans (rfl)))) ?_
                refine go_iconst (v := 1) X d_Model_list_174 ?_
                refine go_iadd X d_Model_list_175 ?_
                obtain ⟨hc36, hF37⟩ := chk_t hF33
                refine go_put (x := ((S23 0 15) + 1)) (v := vi ((S23 0 15) + 1)) X f_Model_210 md34.1.1 rfl d_Model_list_176 rfl rfl rfl ?_
                have md38 : mq sh M0 (m_s M35 r 15 ((S23 0 15) + 1)) r (m_s (m_s S23 11 (S23 0 15) x3) 0 15 ((S23 0 15) + 1)) := md34.put0 (by decide) ((rg_S (by decide) (by decide) hc36))
                generalize m_s M35 r 15 ((S23 0 15) + 1) = M39 at md38 ⊢
                refine go_lv (lv' := [(0, vr r), (1, vi x1), (2, vi x2), (3, vi x3)]) X [0, 1, 2, 3] rfl ?_
                exact hJ179 x1 x2 x3 (m_s (m_s S23 11 (S23 0 15) x3) 0 15 ((S23 0 15) + 1)) M39 hx1 hx2 hx3 md38 hF37
          · skip
            have hF40 := if_t hF hq17
            refine go_iload X d_Model_list_108 rfl ?_
            refine go_aload_n X d_Model_list_110 rfl rfl ?_
            refine go_aload_n X d_Model_list_111 rfl rfl ?_
            refine go_get (v := vr (r + 11)) X f_Model_41 hm.1.1 rfl d_Model_list_112 (s_varr (hm.1.2.2 10 _ rfl).2 (by omega)) ?_
            refine go_iload X d_Model_list_115 rfl ?_
            obtain ⟨hc41, hF42⟩ := chk_t hF40
            refine go_iald X (hm.1.2.2 10 _ rfl).1 (by decide) hc41 d_Model_list_117 ?_
            refine go_top (v' := vi (S1 11 x5)) X (congrArg (fun q => vi q) ((hm.a (by decide) x5).trans (rfl))) ?_
            obtain ⟨v43, S44, hG45, hF46⟩ := bnd_t hF42
            refine go_cV (st2 := []) (r := [vi x4]) X k_Model_237 (a_refers l D hm (hm.gA (by decide) x5) hG45) hm.1.1 rfl rfl (by decide) (Nat.le_of_ble_eq_true rfl) d_Model_list_118 (by decide) (by decide) (fun v' sh' M47 sz' hpp => ?_)
            obtain ⟨e1, e2, e3, hv49, md48⟩ := hpp
            subst e1
            rw [e2, e3]
            clear e2 e3
            show Go g 0 0 sh M47 sz 121 [(0, vr r), (1, vi x1), (2, vi x2), (3, vi x3), (4, vi x4), (5, vi x5)] [vl v43, vi x4]
            refine go_aload_n X d_Model_list_121 rfl rfl ?_
            refine go_get (v := vr (r + 5)) X f_Model_22 md48.1.1 rfl d_Model_list_122 (s_varr (md48.1.2.2 4 _ rfl).2 (by omega)) ?_
            refine go_iload_n X d_Model_list_125 rfl rfl ?_
            obtain ⟨hc50, hF51⟩ := chk_t hF46
            refine go_lald X (md48.1.2.2 4 _ rfl).1 (by decide) hc50 d_Model_list_126 ?_
            refine go_top (v' := vl (S44 5 x3)) X (congrArg (fun q => vl q) ((md48.a (by decide) x3).trans (rfl))) ?_
            refine go_lcmp X hv49 (md48.gL (by decide) x3) d_Model_list_127 ?_
            suffices hv52 : Go g 0 0 sh M47 sz 136 [(0, vr r), (1, vi x1), (2, vi x2), (3, vi x3), (4, vi x4), (5, vi x5)] [vi (if v43 = (S44 5 x3) then (1 : Int) else 0), vi x4] by
              refine go_if_ne (tgt := 135) X d_Model_list_128 rfl (rI_cmp _ _) (fun hq53 => ?_) (fun hq53 => ?_)
              · skip
                refine go_iconst (v := 0) X d_Model_list_135 ?_
                refine go_top (v' := vi (if v43 = (S44 5 x3) then (1 : Int) else 0)) X (congrArg (fun q => vi q) (show 0 = if v43 = (S44 5 x3) then (1 : Int) else 0 from ((if_neg (sc_ne hq53))).symm)) ?_
                exact hv52
              · skip
                refine go_iconst (v := 1) X d_Model_list_131 ?_
                refine go_goto (tgt := 136) X d_Model_list_132 rfl ?_
                refine go_top (v' := vi (if v43 = (S44 5 x3) then (1 : Int) else 0)) X (congrArg (fun q => vi q) (show 1 = if v43 = (S44 5 x3) then (1 : Int) else 0 from ((if_pos (s_cmp0 hq53))).symm)) ?_
                exact hv52
            refine go_iadd X d_Model_list_136 ?_
            obtain ⟨hc54, hF55⟩ := chk_t hF51
            refine go_istore (lv' := [(4, vi (x4 + (if v43 = (S44 5 x3) then (1 : Int) else 0))), (0, vr r), (1, vi x1), (2, vi x2), (3, vi x3), (5, vi x5)]) X d_Model_list_137 (by decide) rfl ?_
            obtain ⟨hc56, hF57⟩ := chk_t hF55
            refine go_iinc (v := 1) (x := x5) (lv' := [(5, vi (x5 + 1)), (4, vi (x4 + (if v43 = (S44 5 x3) then (1 : Int) else 0))), (0, vr r), (1, vi x1), (2, vi x2), (3, vi x3)]) X d_Model_list_139 rfl (by decide) rfl ?_
            refine go_goto (tgt := 102) X d_Model_list_142 rfl ?_
            refine go_lv (lv' := [(0, vr r), (1, vi x1), (2, vi x2), (3, vi x3), (4, vi (x4 + (if v43 = (S44 5 x3) then (1 : Int) else 0))), (5, vi (x5 + 1))]) X [2, 3, 4, 5, 1, 0] rfl ?_
            exact ih102 x1 x2 x3 (x4 + (if v43 = (S44 5 x3) then (1 : Int) else 0)) (x5 + 1) S44 M47 hx1 hx2 hx3 hc54 hc56 md48 hF57
      intro x1 x2 x3 S1 M1 hx1 hx2 hx3 hm hF
      rw [A_list_l88_e] at hF
      refine go_iload_n X d_Model_list_88 rfl rfl ?_
      refine go_aload_n X d_Model_list_89 rfl rfl ?_
      refine go_get (v := vi (S1 0 6)) X f_Model_201 hm.1.1 rfl d_Model_list_90 (congrArg (s_v .int) ((hm.s 6).trans (rfl))) ?_
      refine go_icmp_ge (tgt := 185) X d_Model_list_93 rfl hx3 (hm.gS 6 (by decide) (by decide)) (fun hq58 => ?_) (fun hq58 => ?_)
      · skip
        have hF59 := if_f hF (Int.not_lt.mpr hq58)
        refine go_iconst (v := 0) X d_Model_list_185 ?_
        refine go_istore_n (lv' := [(3, vi 0), (0, vr r), (1, vi x1), (2, vi x2)]) X d_Model_list_186 rfl (by decide) rfl ?_
        refine go_lv (lv' := [(0, vr r), (3, vi 0)]) X [1, 0] rfl ?_
        exact hL187 N 0 S1 M1 (by decide) hm hF59
      · skip
        have hF60 := if_t hF hq58
        refine go_iconst (v := 0) X d_Model_list_96 ?_
        refine go_istore (lv' := [(4, vi 0), (0, vr r), (1, vi x1), (2, vi x2), (3, vi x3)]) X d_Model_list_97 (by decide) rfl ?_
        refine go_iconst (v := 0) X d_Model_list_99 ?_
        refine go_istore (lv' := [(5, vi 0), (4, vi 0), (0, vr r), (1, vi x1), (2, vi x2), (3, vi x3)]) X d_Model_list_100 (by decide) rfl ?_
        refine go_lv (lv' := [(0, vr r), (1, vi x1), (2, vi x2), (3, vi x3), (4, vi 0), (5, vi 0)]) X [2, 3, 4, 5, 1, 0] rfl ?_
        exact hL102 N x1 x2 x3 0 0 S1 M1 hx1 hx2 hx3 (by decide) (by decide) hm hF60
  have hL23 : ∀ (n23 : Nat) (x1 x2 : Int) (S1 M1 : s_M), rI x1 → rI x2 → mq sh M0 M1 r S1 → A_list_l23 N n23 x1 x2 S1 = some (v0, S0) → Go g 0 0 sh M1 sz 23 [(0, vr r), (1, vi x1), (2, vi x2)] [] := by
    intro n23
    induction n23 with
    | zero => intro x1 x2 S1 M1 hx1 hx2 hm hF; cases hF
    | succ n23 ih23 =>
      have hJ75 : ∀ (x1 x2 : Int) (S1 M1 : s_M), rI x1 → rI x2 → mq sh M0 M1 r S1 → A_list_j75 N (A_list_l23 N n23) x1 x2 S1 = some (v0, S0) → Go g 0 0 sh M1 sz 75 [(0, vr r), (1, vi x1), (2, vi x2)] [] := by
        intro x1 x2 S1 M1 hx1 hx2 hm hF
        rw [A_list_j75_e] at hF
        obtain ⟨hc61, hF62⟩ := chk_t hF
        refine go_iinc (v := 1) (x := x2) (lv' := [(2, vi (x2 + 1)), (0, vr r), (1, vi x1)]) X d_Model_list_75 rfl (by decide) rfl ?_
        refine go_goto (tgt := 23) X d_Model_list_78 rfl ?_
        refine go_lv (lv' := [(0, vr r), (1, vi x1), (2, vi (x2 + 1))]) X [1, 2, 0] rfl ?_
        exact ih23 x1 (x2 + 1) S1 M1 hx1 hc61 hm hF62
      intro x1 x2 S1 M1 hx1 hx2 hm hF
      rw [A_list_l23_e] at hF
      refine go_iload_n X d_Model_list_23 rfl rfl ?_
      refine go_aload_n X d_Model_list_24 rfl rfl ?_
      refine go_get (v := vi (S1 0 13)) X f_Model_228 hm.1.1 rfl d_Model_list_25 (congrArg (s_v .int) ((hm.s 13).trans (rfl))) ?_
      refine go_icmp_ge (tgt := 81) X d_Model_list_28 rfl hx2 (hm.gS 13 (by decide) (by decide)) (fun hq63 => ?_) (fun hq63 => ?_)
      · skip
        have hF64 := if_f hF (Int.not_lt.mpr hq63)
        refine go_aload_n X d_Model_list_81 rfl rfl ?_
        refine go_get (v := vi (S1 0 15)) X f_Model_210 hm.1.1 rfl d_Model_list_82 (congrArg (s_v .int) ((hm.s 15).trans (rfl))) ?_
        refine go_istore_n (lv' := [(2, vi (S1 0 15)), (0, vr r), (1, vi x1)]) X d_Model_list_85 rfl (by decide) rfl ?_
        refine go_iconst (v := 0) X d_Model_list_86 ?_
        refine go_istore_n (lv' := [(3, vi 0), (2, vi (S1 0 15)), (0, vr r), (1, vi x1)]) X d_Model_list_87 rfl (by decide) rfl ?_
        refine go_lv (lv' := [(0, vr r), (1, vi x1), (2, vi (S1 0 15)), (3, vi 0)]) X [2, 3, 1, 0] rfl ?_
        exact hL88 N x1 (S1 0 15) 0 S1 M1 hx1 (hm.gS 15 (by decide) (by decide)) (by decide) hm hF64
      · skip
        have hF65 := if_t hF hq63
        refine go_aload_n X d_Model_list_31 rfl rfl ?_
        refine go_aload_n X d_Model_list_32 rfl rfl ?_
        refine go_get (v := vr (r + 10)) X f_Model_38 hm.1.1 rfl d_Model_list_33 (s_varr (hm.1.2.2 9 _ rfl).2 (by omega)) ?_
        refine go_iload_n X d_Model_list_36 rfl rfl ?_
        obtain ⟨hc66, hF67⟩ := chk_t hF65
        refine go_lald X (hm.1.2.2 9 _ rfl).1 (by decide) hc66 d_Model_list_37 ?_
        refine go_top (v' := vl (S1 10 x2)) X (congrArg (fun q => vl q) ((hm.a (by decide) x2).trans (rfl))) ?_
        obtain ⟨v68, S69, hG70, hF71⟩ := bnd_t hF67
        refine go_cV (st2 := []) (r := []) X k_Model_207 (a_findKey l D hm (hm.gL (by decide) x2) hG70) hm.1.1 rfl rfl (by decide) (Nat.le_of_ble_eq_true rfl) d_Model_list_38 (by decide) (by decide) (fun v' sh' M72 sz' hpp => ?_)
        obtain ⟨e1, e2, e3, hv74, md73⟩ := hpp
        subst e1
        rw [e2, e3]
        clear e2 e3
        show Go g 0 0 sh M72 sz 41 [(0, vr r), (1, vi x1), (2, vi x2)] [vi v68]
        refine go_istore_n (lv' := [(3, vi v68), (0, vr r), (1, vi x1), (2, vi x2)]) X d_Model_list_41 rfl (by decide) rfl ?_
        refine go_iload_n X d_Model_list_42 rfl rfl ?_
        refine go_if_ge (tgt := 55) X d_Model_list_43 rfl hv74 (fun hq75 => ?_) (fun hq75 => ?_)
        · skip
          have hF76 := if_f hF71 (Int.not_lt.mpr hq75)
          refine go_aload_n X d_Model_list_55 rfl rfl ?_
          refine go_get (v := vr (r + 11)) X f_Model_41 md73.1.1 rfl d_Model_list_56 (s_varr (md73.1.2.2 10 _ rfl).2 (by omega)) ?_
          refine go_aload_n X d_Model_list_59 rfl rfl ?_
          refine go_get (v := vi (S69 0 15)) X f_Model_210 md73.1.1 rfl d_Model_list_60 (congrArg (s_v .int) ((md73.s 15).trans (rfl))) ?_
          refine go_iload_n X d_Model_list_63 rfl rfl ?_
          obtain ⟨hc77, hF78⟩ := chk_t hF76
          refine go_iast (x := v68) X (md73.1.2.2 10 _ rfl).1 (by decide) hc77 d_Model_list_64 ?_
          have md79 : mq sh M0 (m_s M72 (r + 11) (S69 0 15) v68) r (m_s S69 11 (S69 0 15) v68) := md73.put (by decide) ((rg_A (by decide) hv74))
          generalize m_s M72 (r + 11) (S69 0 15) v68 = M80 at md79 ⊢
          refine go_aload_n X d_Model_list_65 rfl rfl ?_
          refine go_dup X d_Model_list_66 rfl ?_
          refine go_get (v := vi (S69 0 15)) X f_Model_210 md79.1.1 rfl d_Model_list_67 (congrArg (s_v .int) ((md79.s 15).trans ((m_sk (by decide)).trans (rfl)))) ?_
          refine go_iconst (v := 1) X d_Model_list_70 ?_
          refine go_iadd X d_Model_list_71 ?_
          obtain ⟨hc81, hF82⟩ := chk_t hF78
          refine go_put (x := ((S69 0 15) + 1)) (v := vi ((S69 0 15) + 1)) X f_Model_210 md79.1.1 rfl d_Model_list_72 rfl rfl rfl ?_
          have md83 : mq sh M0 (m_s M80 r 15 ((S69 0 15) + 1)) r (m_s (m_s S69 11 (S69 0 15) v68) 0 15 ((S69 0 15) + 1)) := md79.put0 (by decide) ((rg_S (by decide) (by decide) hc81))
          generalize m_s M80 r 15 ((S69 0 15) + 1) = M84 at md83 ⊢
          refine go_lv (lv' := [(0, vr r), (1, vi x1), (2, vi x2)]) X [1, 2, 3] rfl ?_
          exact hJ75 x1 x2 (m_s (m_s S69 11 (S69 0 15) v68) 0 15 ((S69 0 15) + 1)) M84 hx1 hx2 md83 hF82
        · skip
          have hF85 := if_t hF71 hq75
          refine go_aload_n X d_Model_list_46 rfl rfl ?_
          refine go_bipush (v := 6) X d_Model_list_47 (by decide) ?_
          obtain ⟨v86, S87, hG88, hF89⟩ := bnd_t hF85
          refine go_cV (st2 := []) (r := []) X k_Model_144 (a_warn l D md73 (by decide) hG88) md73.1.1 rfl rfl (by decide) (Nat.le_of_ble_eq_true rfl) d_Model_list_49 (by decide) (by decide) (fun v' sh' M90 sz' hpp => ?_)
          obtain ⟨e1, e2, e3, md91⟩ := hpp
          subst e1
          rw [e2, e3]
          clear e2 e3
          show Go g 0 0 sh M90 sz 52 [(3, vi v68), (0, vr r), (1, vi x1), (2, vi x2)] []
          refine go_goto (tgt := 75) X d_Model_list_52 rfl ?_
          refine go_lv (lv' := [(0, vr r), (1, vi x1), (2, vi x2)]) X [1, 2, 3] rfl ?_
          exact hJ75 x1 x2 S87 M90 hx1 hx2 md91 hF89
  rw [A_list_e] at hF
  refine go_aload_n X d_Model_list_0 rfl rfl ?_
  refine go_iconst (v := 0) X d_Model_list_1 ?_
  refine go_put (x := 0) (v := vi 0) X f_Model_95 h.1.1 rfl d_Model_list_2 rfl rfl rfl ?_
  have md93 : mq sh M0 (m_s M r 0 0) r (m_s S 0 0 0) := h.put0 (by decide) ((rg_S (by decide) (by decide) (by decide)))
  generalize m_s M r 0 0 = M94 at md93 ⊢
  refine go_iload_n X d_Model_list_5 rfl rfl ?_
  refine go_iconst (v := 1) X d_Model_list_6 ?_
  refine go_icmp_ge (tgt := 16) X d_Model_list_7 rfl hx1 (by decide) (fun hq95 => ?_) (fun hq95 => ?_)
  · skip
    have hF96 := if_f hF (Int.not_lt.mpr hq95)
    refine go_aload_n X d_Model_list_16 rfl rfl ?_
    refine go_iconst (v := 0) X d_Model_list_17 ?_
    refine go_put (x := 0) (v := vi 0) X f_Model_210 md93.1.1 rfl d_Model_list_18 rfl rfl rfl ?_
    have md97 : mq sh M0 (m_s M94 r 15 0) r (m_s (m_s S 0 0 0) 0 15 0) := md93.put0 (by decide) ((rg_S (by decide) (by decide) (by decide)))
    generalize m_s M94 r 15 0 = M98 at md97 ⊢
    refine go_iconst (v := 0) X d_Model_list_21 ?_
    refine go_istore_n (lv' := [(2, vi 0), (0, vr r), (1, vi x1)]) X d_Model_list_22 rfl (by decide) rfl ?_
    refine go_lv (lv' := [(0, vr r), (1, vi x1), (2, vi 0)]) X [1, 2, 0] rfl ?_
    exact hL23 N x1 0 (m_s (m_s S 0 0 0) 0 15 0) M98 hx1 (by decide) md97 hF96
  · skip
    have hF99 := if_t hF hq95
    refine go_aload_n X d_Model_list_10 rfl rfl ?_
    refine go_iconst (v := 1) X d_Model_list_11 ?_
    obtain ⟨v100, S101, hG102, hF103⟩ := bnd_t hF99
    refine go_cV (st2 := []) (r := []) X k_Model_128 (a_fail l D md93 (by decide) hG102) md93.1.1 rfl rfl (by decide) (Nat.le_of_ble_eq_true rfl) d_Model_list_12 (by decide) (by decide) (fun v' sh' M104 sz' hpp => ?_)
    obtain ⟨e1, e2, e3, hv106, md105⟩ := hpp
    subst e1
    rw [e2, e3]
    clear e2 e3
    show Go g 0 0 sh M104 sz 15 [(0, vr r), (1, vi x1)] [vi v100]
    exact go_iret X d_Model_list_15 rfl rfl (by decide) (by decide) (ret_i hF103 hv106 md105)
def A_key_j39 (N : Nat) (y0 : Int) (S : s_M) : rO := some (y0, S)
theorem A_key_j39_e (N : Nat) (y0 : Int) (S : s_M) : A_key_j39 N y0 S = (some (y0, S)) := rfl
def A_key (N : Nat) (x1 : Int) (S : s_M) : rO := chk (rI ((S 0 15) - 1)) <| if (decide (0 ≤ x1 ∧ x1 ≤ ((S 0 15) - 1))) = true then (chk (0 ≤ x1 ∧ x1 < 8) <| chk (0 ≤ (S 11 x1) ∧ (S 11 x1) < 9) <| A_key_j39 N (S 5 (S 11 x1)) (m_s S 0 0 0)) else (bnd (A_fail N 1 (m_s S 0 0 0)) fun v7 S8 => A_key_j39 N v7 S8)
theorem A_key_e (N : Nat) (x1 : Int) (S : s_M) : A_key N x1 S = (chk (rI ((S 0 15) - 1)) <| if (decide (0 ≤ x1 ∧ x1 ≤ ((S 0 15) - 1))) = true then (chk (0 ≤ x1 ∧ x1 < 8) <| chk (0 ≤ (S 11 x1) ∧ (S 11 x1) < 9) <| A_key_j39 N (S 5 (S 11 x1)) (m_s S 0 0 0)) else (bnd (A_fail N 1 (m_s S 0 0 0)) fun v7 S8 => A_key_j39 N v7 S8)) := rfl
set_option maxHeartbeats 4000000 in
set_option maxRecDepth 100000 in
theorem a_key (l : Launch) (D : va_G) {sh : s_S} {M0 M : s_M} {sz r x1 : Int} {N : Nat} {S S0 : s_M} {v0 : Int} (h : mq sh M0 M r S) (hx1 : rI x1) (hF : A_key N x1 S = some (v0, S0)) : Sp l D y_Model_key prog_14_method_42_code 2 (some .long) 2 0 0 [vr r, vi x1] sh M sz (fun v' sh' M' sz' => v' = some (vl v0) ∧ sh' = sh ∧ sz' = sz ∧ rL v0 ∧ mq sh M0 M' r S0) := by
  have hr0 := h.1.2.1
  refine Sp.ofGo (own := "CiteForgeModel") (nm := "key") (by decide) rfl rfl (Nat.le_of_ble_eq_true rfl) (lv := [(0, vr r), (1, vi x1)]) rfl ?_
  intro g X
  have hJ39 : ∀ (y0 : Int) (S1 M1 : s_M), rL y0 → mq sh M0 M1 r S1 → A_key_j39 N y0 S1 = some (v0, S0) → Go g 0 0 sh M1 sz 39 [(0, vr r)] [vl y0] := by
    intro y0 S1 M1 hy0 hm hF
    rw [A_key_j39_e] at hF
    exact go_lret X d_Model_key_39 rfl (by decide) (by decide) (ret_l hF hy0 hm)
  rw [A_key_e] at hF
  refine go_aload_n X d_Model_key_0 rfl rfl ?_
  refine go_iconst (v := 0) X d_Model_key_1 ?_
  refine go_put (x := 0) (v := vi 0) X f_Model_95 h.1.1 rfl d_Model_key_2 rfl rfl rfl ?_
  have md1 : mq sh M0 (m_s M r 0 0) r (m_s S 0 0 0) := h.put0 (by decide) ((rg_S (by decide) (by decide) (by decide)))
  generalize m_s M r 0 0 = M2 at md1 ⊢
  refine go_iload_n X d_Model_key_5 rfl rfl ?_
  refine go_iconst (v := 0) X d_Model_key_6 ?_
  refine go_aload_n X d_Model_key_7 rfl rfl ?_
  refine go_get (v := vi (S 0 15)) X f_Model_210 md1.1.1 rfl d_Model_key_8 (congrArg (s_v .int) ((md1.s 15).trans ((m_sj (by decide)).trans (rfl)))) ?_
  refine go_iconst (v := 1) X d_Model_key_11 ?_
  refine go_isub X d_Model_key_12 ?_
  obtain ⟨hc3, hF4⟩ := chk_t hF
  refine go_cSf (st2 := [vi (s_b (decide (0 ≤ x1 ∧ x1 ≤ ((S 0 15) - 1))))]) (r := []) X k_Model_103 (m_within l D hx1 (by decide) hc3) rfl rfl (by decide) (Nat.le_of_ble_eq_true rfl) d_Model_key_13 (by decide) (by decide) rfl ?_
  refine go_ifb_eq (tgt := 33) X d_Model_key_16 rfl (fun hq5 => ?_) (fun hq5 => ?_)
  · skip
    have hF6 := if_f hF4 (bnf hq5)
    refine go_aload_n X d_Model_key_33 rfl rfl ?_
    refine go_iconst (v := 1) X d_Model_key_34 ?_
    obtain ⟨v7, S8, hG9, hF10⟩ := bnd_t hF6
    refine go_cV (st2 := []) (r := []) X k_Model_128 (a_fail l D md1 (by decide) hG9) md1.1.1 rfl rfl (by decide) (Nat.le_of_ble_eq_true rfl) d_Model_key_35 (by decide) (by decide) (fun v' sh' M11 sz' hpp => ?_)
    obtain ⟨e1, e2, e3, hv13, md12⟩ := hpp
    subst e1
    rw [e2, e3]
    clear e2 e3
    show Go g 0 0 sh M11 sz 38 [(0, vr r), (1, vi x1)] [vi v7]
    refine go_i2l X d_Model_key_38 hv13 ?_
    refine go_lv (lv' := [(0, vr r)]) X [0] rfl ?_
    exact hJ39 v7 S8 M11 (rI_L hv13) md12 hF10
  · skip
    have hF14 := if_t hF4 hq5
    refine go_aload_n X d_Model_key_19 rfl rfl ?_
    refine go_get (v := vr (r + 5)) X f_Model_22 md1.1.1 rfl d_Model_key_20 (s_varr (md1.1.2.2 4 _ rfl).2 (by omega)) ?_
    refine go_aload_n X d_Model_key_23 rfl rfl ?_
    refine go_get (v := vr (r + 11)) X f_Model_41 md1.1.1 rfl d_Model_key_24 (s_varr (md1.1.2.2 10 _ rfl).2 (by omega)) ?_
    refine go_iload_n X d_Model_key_27 rfl rfl ?_
    obtain ⟨hc15, hF16⟩ := chk_t hF14
    refine go_iald X (md1.1.2.2 10 _ rfl).1 (by decide) hc15 d_Model_key_28 ?_
    refine go_top (v' := vi (S 11 x1)) X (congrArg (fun q => vi q) ((md1.a (by decide) x1).trans ((m_sk (by decide)).trans (rfl)))) ?_
    obtain ⟨hc17, hF18⟩ := chk_t hF16
    refine go_lald X (md1.1.2.2 4 _ rfl).1 (by decide) hc17 d_Model_key_29 ?_
    refine go_top (v' := vl (S 5 (S 11 x1))) X (congrArg (fun q => vl q) ((md1.a (by decide) (S 11 x1)).trans ((m_sk (by decide)).trans (rfl)))) ?_
    refine go_goto (tgt := 39) X d_Model_key_30 rfl ?_
    refine go_lv (lv' := [(0, vr r)]) X [0] rfl ?_
    exact hJ39 (S 5 (S 11 x1)) (m_s S 0 0 0) M2 (rL_eq (md1.gL (by decide) (S 11 x1)) ((m_sk (by decide)).trans (rfl))) md1 hF18
def A_before_j64 (N : Nat) (x1 x2 : Int) (S : s_M) : rO := chk (0 ≤ x1 ∧ x1 < 85) <| chk (0 ≤ x2 ∧ x2 < 85) <| some (if (S 3 x1) < (S 3 x2) then (1 : Int) else 0, S)
theorem A_before_j64_e (N : Nat) (x1 x2 : Int) (S : s_M) : A_before_j64 N x1 x2 S = (chk (0 ≤ x1 ∧ x1 < 85) <| chk (0 ≤ x2 ∧ x2 < 85) <| some (if (S 3 x1) < (S 3 x2) then (1 : Int) else 0, S)) := rfl
def A_before_l2 (N : Nat) : Nat → Int → Int → Int → s_M → rO
  | 0, _, _, _, _ => none
  | n + 1, x1, x2, x3, S => chk (0 ≤ x1 ∧ x1 < 85) <| if x3 < (S 3 x1) then (chk (0 ≤ x2 ∧ x2 < 85) <| if x3 < (S 3 x2) then (bnd (A_at N x1 x3 S) fun v17 S18 => bnd (A_at N x2 x3 S18) fun v24 S25 => if v17 = v24 then (chk (rI (x3 + 1)) <| (A_before_l2 N n) x1 x2 (x3 + 1) S25) else (bnd (A_at N x1 x3 S25) fun v36 S37 => bnd (A_at N x2 x3 S37) fun v43 S44 => some (if v36 < v43 then (1 : Int) else 0, S44))) else (A_before_j64 N x1 x2 S)) else (A_before_j64 N x1 x2 S)
theorem A_before_l2_e (N : Nat) (n : Nat) (x1 x2 x3 : Int) (S : s_M) : A_before_l2 N (n + 1) x1 x2 x3 S = (chk (0 ≤ x1 ∧ x1 < 85) <| if x3 < (S 3 x1) then (chk (0 ≤ x2 ∧ x2 < 85) <| if x3 < (S 3 x2) then (bnd (A_at N x1 x3 S) fun v17 S18 => bnd (A_at N x2 x3 S18) fun v24 S25 => if v17 = v24 then (chk (rI (x3 + 1)) <| (A_before_l2 N n) x1 x2 (x3 + 1) S25) else (bnd (A_at N x1 x3 S25) fun v36 S37 => bnd (A_at N x2 x3 S37) fun v43 S44 => some (if v36 < v43 then (1 : Int) else 0, S44))) else (A_before_j64 N x1 x2 S)) else (A_before_j64 N x1 x2 S)) := rfl
def A_before (N : Nat) (x1 x2 : Int) (S : s_M) : rO := A_before_l2 N N x1 x2 0 S
theorem A_before_e (N : Nat) (x1 x2 : Int) (S : s_M) : A_before N x1 x2 S = (A_before_l2 N N x1 x2 0 S) := rfl
set_option maxHeartbeats 4000000 in
set_option maxRecDepth 100000 in
theorem a_before (l : Launch) (D : va_G) {sh : s_S} {M0 M : s_M} {sz r x1 x2 : Int} {N : Nat} {S S0 : s_M} {v0 : Int} (h : mq sh M0 M r S) (hx1 : rI x1) (hx2 : rI x2) (hF : A_before N x1 x2 S = some (v0, S0)) : Sp l D y_Model_before prog_14_method_43_code 4 (some .boolean) 2 0 0 [vr r, vi x1, vi x2] sh M sz (fun v' sh' M' sz' => v' = some (vi v0) ∧ sh' = sh ∧ sz' = sz ∧ rI v0 ∧ mq sh M0 M' r S0) := by
  have hr0 := h.1.2.1
  refine Sp.ofGo (own := "CiteForgeModel") (nm := "before") (by decide) rfl rfl (Nat.le_of_ble_eq_true rfl) (lv := [(0, vr r), (1, vi x1), (2, vi x2)]) rfl ?_
  intro g X
  have hJ64 : ∀ (x1 x2 : Int) (S1 M1 : s_M), rI x1 → rI x2 → mq sh M0 M1 r S1 → A_before_j64 N x1 x2 S1 = some (v0, S0) → Go g 0 0 sh M1 sz 64 [(0, vr r), (1, vi x1), (2, vi x2)] [] := by
    intro x1 x2 S1 M1 hx1 hx2 hm hF
    rw [A_before_j64_e] at hF
    refine go_aload_n X d_Model_before_64 rfl rfl ?_
    refine go_get (v := vr (r + 3)) X f_Model_16 hm.1.1 rfl d_Model_before_65 (s_varr (hm.1.2.2 2 _ rfl).2 (by omega)) ?_
    refine go_iload_n X d_Model_before_68 rfl rfl ?_
    obtain ⟨hc1, hF2⟩ := chk_t hF
    refine go_iald X (hm.1.2.2 2 _ rfl).1 (by decide) hc1 d_Model_before_69 ?_
    refine go_top (v' := vi (S1 3 x1)) X (congrArg (fun q => vi q) ((hm.a (by decide) x1).trans (rfl))) ?_
    refine go_aload_n X d_Model_before_70 rfl rfl ?_
    refine go_get (v := vr (r + 3)) X f_Model_16 hm.1.1 rfl d_Model_before_71 (s_varr (hm.1.2.2 2 _ rfl).2 (by omega)) ?_
    refine go_iload_n X d_Model_before_74 rfl rfl ?_
    obtain ⟨hc3, hF4⟩ := chk_t hF2
    refine go_iald X (hm.1.2.2 2 _ rfl).1 (by decide) hc3 d_Model_before_75 ?_
    refine go_top (v' := vi (S1 3 x2)) X (congrArg (fun q => vi q) ((hm.a (by decide) x2).trans (rfl))) ?_
    suffices hv5 : Go g 0 0 sh M1 sz 84 [(0, vr r), (1, vi x1), (2, vi x2)] [vi (if (S1 3 x1) < (S1 3 x2) then (1 : Int) else 0)] by
      refine go_icmp_ge (tgt := 83) X d_Model_before_76 rfl (hm.gA (by decide) x1) (hm.gA (by decide) x2) (fun hq6 => ?_) (fun hq6 => ?_)
      · skip
        refine go_iconst (v := 0) X d_Model_before_83 ?_
        refine go_top (v' := vi (if (S1 3 x1) < (S1 3 x2) then (1 : Int) else 0)) X (congrArg (fun q => vi q) (show 0 = if (S1 3 x1) < (S1 3 x2) then (1 : Int) else 0 from ((if_neg (Int.not_lt.mpr hq6))).symm)) ?_
        exact hv5
      · skip
        refine go_iconst (v := 1) X d_Model_before_79 ?_
        refine go_goto (tgt := 84) X d_Model_before_80 rfl ?_
        refine go_top (v' := vi (if (S1 3 x1) < (S1 3 x2) then (1 : Int) else 0)) X (congrArg (fun q => vi q) (show 1 = if (S1 3 x1) < (S1 3 x2) then (1 : Int) else 0 from ((if_pos hq6)).symm)) ?_
        exact hv5
    exact go_iret X d_Model_before_84 rfl (n_nz (z_ite (by decide) (by decide))) (by decide) (by decide) (ret_i hF4 (rI_ite (by decide) (by decide)) hm)
  have hL2 : ∀ (n2 : Nat) (x1 x2 x3 : Int) (S1 M1 : s_M), rI x1 → rI x2 → rI x3 → mq sh M0 M1 r S1 → A_before_l2 N n2 x1 x2 x3 S1 = some (v0, S0) → Go g 0 0 sh M1 sz 2 [(0, vr r), (1, vi x1), (2, vi x2), (3, vi x3)] [] := by
    intro n2
    induction n2 with
    | zero => intro x1 x2 x3 S1 M1 hx1 hx2 hx3 hm hF; cases hF
    | succ n2 ih2 =>
      intro x1 x2 x3 S1 M1 hx1 hx2 hx3 hm hF
      rw [A_before_l2_e] at hF
      refine go_iload_n X d_Model_before_2 rfl rfl ?_
      refine go_aload_n X d_Model_before_3 rfl rfl ?_
      refine go_get (v := vr (r + 3)) X f_Model_16 hm.1.1 rfl d_Model_before_4 (s_varr (hm.1.2.2 2 _ rfl).2 (by omega)) ?_
      refine go_iload_n X d_Model_before_7 rfl rfl ?_
      obtain ⟨hc7, hF8⟩ := chk_t hF
      refine go_iald X (hm.1.2.2 2 _ rfl).1 (by decide) hc7 d_Model_before_8 ?_
      refine go_top (v' := vi (S1 3 x1)) X (congrArg (fun q => vi q) ((hm.a (by decide) x1).trans (rfl))) ?_
      refine go_icmp_ge (tgt := 64) X d_Model_before_9 rfl hx3 (hm.gA (by decide) x1) (fun hq9 => ?_) (fun hq9 => ?_)
      · skip
        have hF10 := if_f hF8 (Int.not_lt.mpr hq9)
        refine go_lv (lv' := [(0, vr r), (1, vi x1), (2, vi x2)]) X [0, 1, 2] rfl ?_
        exact hJ64 x1 x2 S1 M1 hx1 hx2 hm hF10
      · skip
        have hF11 := if_t hF8 hq9
        refine go_iload_n X d_Model_before_12 rfl rfl ?_
        refine go_aload_n X d_Model_before_13 rfl rfl ?_
        refine go_get (v := vr (r + 3)) X f_Model_16 hm.1.1 rfl d_Model_before_14 (s_varr (hm.1.2.2 2 _ rfl).2 (by omega)) ?_
        refine go_iload_n X d_Model_before_17 rfl rfl ?_
        obtain ⟨hc12, hF13⟩ := chk_t hF11
        refine go_iald X (hm.1.2.2 2 _ rfl).1 (by decide) hc12 d_Model_before_18 ?_
        refine go_top (v' := vi (S1 3 x2)) X (congrArg (fun q => vi q) ((hm.a (by decide) x2).trans (rfl))) ?_
        refine go_icmp_ge (tgt := 64) X d_Model_before_19 rfl hx3 (hm.gA (by decide) x2) (fun hq14 => ?_) (fun hq14 => ?_)
        · skip
          have hF15 := if_f hF13 (Int.not_lt.mpr hq14)
          refine go_lv (lv' := [(0, vr r), (1, vi x1), (2, vi x2)]) X [0, 1, 2] rfl ?_
          exact hJ64 x1 x2 S1 M1 hx1 hx2 hm hF15
        · skip
          have hF16 := if_t hF13 hq14
          refine go_aload_n X d_Model_before_22 rfl rfl ?_
          refine go_iload_n X d_Model_before_23 rfl rfl ?_
          refine go_iload_n X d_Model_before_24 rfl rfl ?_
          obtain ⟨v17, S18, hG19, hF20⟩ := bnd_t hF16
          refine go_cV (st2 := []) (r := []) X k_Model_99 (a_at l D hm hx1 hx3 hG19) hm.1.1 rfl rfl (by decide) (Nat.le_of_ble_eq_true rfl) d_Model_before_25 (by decide) (by decide) (fun v' sh' M21 sz' hpp => ?_)
          obtain ⟨e1, e2, e3, hv23, md22⟩ := hpp
          subst e1
          rw [e2, e3]
          clear e2 e3
          show Go g 0 0 sh M21 sz 28 [(0, vr r), (1, vi x1), (2, vi x2), (3, vi x3)] [vi v17]
          refine go_aload_n X d_Model_before_28 rfl rfl ?_
          refine go_iload_n X d_Model_before_29 rfl rfl ?_
          refine go_iload_n X d_Model_before_30 rfl rfl ?_
          obtain ⟨v24, S25, hG26, hF27⟩ := bnd_t hF20
          refine go_cV (st2 := []) (r := [vi v17]) X k_Model_99 (a_at l D md22 hx2 hx3 hG26) md22.1.1 rfl rfl (by decide) (Nat.le_of_ble_eq_true rfl) d_Model_before_31 (by decide) (by decide) (fun v' sh' M28 sz' hpp => ?_)
          obtain ⟨e1, e2, e3, hv30, md29⟩ := hpp
          subst e1
          rw [e2, e3]
          clear e2 e3
          show Go g 0 0 sh M28 sz 34 [(0, vr r), (1, vi x1), (2, vi x2), (3, vi x3)] [vi v24, vi v17]
          refine go_icmp_eq (tgt := 58) X d_Model_before_34 rfl hv23 hv30 (fun hq31 => ?_) (fun hq31 => ?_)
          · skip
            have hF32 := if_t hF27 hq31
            obtain ⟨hc33, hF34⟩ := chk_t hF32
            refine go_iinc (v := 1) (x := x3) (lv' := [(3, vi (x3 + 1)), (0, vr r), (1, vi x1), (2, vi x2)]) X d_Model_before_58 rfl (by decide) rfl ?_
            refine go_goto (tgt := 2) X d_Model_before_61 rfl ?_
            refine go_lv (lv' := [(0, vr r), (1, vi x1), (2, vi x2), (3, vi (x3 + 1))]) X [1, 2, 3, 0] rfl ?_
            exact ih2 x1 x2 (x3 + 1) S25 M28 hx1 hx2 hc33 md29 hF34
          · skip
            have hF35 := if_f hF27 hq31
            refine go_aload_n X d_Model_before_37 rfl rfl ?_
            refine go_iload_n X d_Model_before_38 rfl rfl ?_
            refine go_iload_n X d_Model_before_39 rfl rfl ?_
            obtain ⟨v36, S37, hG38, hF39⟩ := bnd_t hF35
            refine go_cV (st2 := []) (r := []) X k_Model_99 (a_at l D md29 hx1 hx3 hG38) md29.1.1 rfl rfl (by decide) (Nat.le_of_ble_eq_true rfl) d_Model_before_40 (by decide) (by decide) (fun v' sh' M40 sz' hpp => ?_)
            obtain ⟨e1, e2, e3, hv42, md41⟩ := hpp
            subst e1
            rw [e2, e3]
            clear e2 e3
            show Go g 0 0 sh M40 sz 43 [(0, vr r), (1, vi x1), (2, vi x2), (3, vi x3)] [vi v36]
            refine go_aload_n X d_Model_before_43 rfl rfl ?_
            refine go_iload_n X d_Model_before_44 rfl rfl ?_
            refine go_iload_n X d_Model_before_45 rfl rfl ?_
            obtain ⟨v43, S44, hG45, hF46⟩ := bnd_t hF39
            refine go_cV (st2 := []) (r := [vi v36]) X k_Model_99 (a_at l D md41 hx2 hx3 hG45) md41.1.1 rfl rfl (by decide) (Nat.le_of_ble_eq_true rfl) d_Model_before_46 (by decide) (by decide) (fun v' sh' M47 sz' hpp => ?_)
            obtain ⟨e1, e2, e3, hv49, md48⟩ := hpp
            subst e1
            rw [e2, e3]
            clear e2 e3
            show Go g 0 0 sh M47 sz 49 [(0, vr r), (1, vi x1), (2, vi x2), (3, vi x3)] [vi v43, vi v36]
            suffices hv50 : Go g 0 0 sh M47 sz 57 [(0, vr r), (1, vi x1), (2, vi x2), (3, vi x3)] [vi (if v36 < v43 then (1 : Int) else 0)] by
              refine go_icmp_ge (tgt := 56) X d_Model_before_49 rfl hv42 hv49 (fun hq51 => ?_) (fun hq51 => ?_)
              · skip
                refine go_iconst (v := 0) X d_Model_before_56 ?_
                refine go_top (v' := vi (if v36 < v43 then (1 : Int) else 0)) X (congrArg (fun q => vi q) (show 0 = if v36 < v43 then (1 : Int) else 0 from ((if_neg (Int.not_lt.mpr hq51))).symm)) ?_
                exact hv50
              · skip
                refine go_iconst (v := 1) X d_Model_before_52 ?_
                refine go_goto (tgt := 57) X d_Model_before_53 rfl ?_
                refine go_top (v' := vi (if v36 < v43 then (1 : Int) else 0)) X (congrArg (fun q => vi q) (show 1 = if v36 < v43 then (1 : Int) else 0 from ((if_pos hq51)).symm)) ?_
                exact hv50
            exact go_iret X d_Model_before_57 rfl (n_nz (z_ite (by decide) (by decide))) (by decide) (by decide) (ret_i hF46 (rI_ite (by decide) (by decide)) md48)
  rw [A_before_e] at hF
  refine go_iconst (v := 0) X d_Model_before_0 ?_
  refine go_istore_n (lv' := [(3, vi 0), (0, vr r), (1, vi x1), (2, vi x2)]) X d_Model_before_1 rfl (by decide) rfl ?_
  refine go_lv (lv' := [(0, vr r), (1, vi x1), (2, vi x2), (3, vi 0)]) X [1, 2, 3, 0] rfl ?_
  exact hL2 N x1 x2 0 S M hx1 hx2 (by decide) h hF
def A_sort_j90 (N : Nat) (k9 : Int → Int → s_M → rO) (x1 x2 : Int) (S : s_M) : rO := chk (rI (x2 + 1)) <| k9 x1 (x2 + 1) S
theorem A_sort_j90_e (N : Nat) (k9 : Int → Int → s_M → rO) (x1 x2 : Int) (S : s_M) : A_sort_j90 N k9 x1 x2 S = (chk (rI (x2 + 1)) <| k9 x1 (x2 + 1) S) := rfl
def A_sort_l19 (N : Nat) (k9 : Int → Int → s_M → rO) : Nat → Int → Int → Int → s_M → rO
  | 0, _, _, _, _ => none
  | n + 1, x1, x2, x3, S => if 0 < x3 then (chk (0 ≤ x3 ∧ x3 < 8) <| chk (rI (62 + (S 11 x3))) <| chk (rI (x3 - 1)) <| chk (0 ≤ (x3 - 1) ∧ (x3 - 1) < 8) <| chk (rI (62 + (S 11 (x3 - 1)))) <| bnd (A_before N (62 + (S 11 x3)) (62 + (S 11 (x3 - 1))) S) fun v16 S17 => if v16 = 0 then (A_sort_j90 N k9 x1 x2 S17) else (chk (0 ≤ x3 ∧ x3 < 8) <| chk (rI (x3 - 1)) <| chk (0 ≤ (x3 - 1) ∧ (x3 - 1) < 8) <| chk (0 ≤ x3 ∧ x3 < 8) <| chk (rI (x3 - 1)) <| chk (0 ≤ (x3 - 1) ∧ (x3 - 1) < 8) <| chk (rI (x3 + (-1))) <| (A_sort_l19 N k9 n) 1 x2 (x3 + (-1)) (m_s (m_s S17 11 x3 (S17 11 (x3 - 1))) 11 (x3 - 1) (S17 11 x3)))) else (A_sort_j90 N k9 x1 x2 S)
theorem A_sort_l19_e (N : Nat) (k9 : Int → Int → s_M → rO) (n : Nat) (x1 x2 x3 : Int) (S : s_M) : A_sort_l19 N k9 (n + 1) x1 x2 x3 S = (if 0 < x3 then (chk (0 ≤ x3 ∧ x3 < 8) <| chk (rI (62 + (S 11 x3))) <| chk (rI (x3 - 1)) <| chk (0 ≤ (x3 - 1) ∧ (x3 - 1) < 8) <| chk (rI (62 + (S 11 (x3 - 1)))) <| bnd (A_before N (62 + (S 11 x3)) (62 + (S 11 (x3 - 1))) S) fun v16 S17 => if v16 = 0 then (A_sort_j90 N k9 x1 x2 S17) else (chk (0 ≤ x3 ∧ x3 < 8) <| chk (rI (x3 - 1)) <| chk (0 ≤ (x3 - 1) ∧ (x3 - 1) < 8) <| chk (0 ≤ x3 ∧ x3 < 8) <| chk (rI (x3 - 1)) <| chk (0 ≤ (x3 - 1) ∧ (x3 - 1) < 8) <| chk (rI (x3 + (-1))) <| (A_sort_l19 N k9 n) 1 x2 (x3 + (-1)) (m_s (m_s S17 11 x3 (S17 11 (x3 - 1))) 11 (x3 - 1) (S17 11 x3)))) else (A_sort_j90 N k9 x1 x2 S)) := rfl
def A_sort_l9 (N : Nat) : Nat → Int → Int → s_M → rO
  | 0, _, _, _ => none
  | n + 1, x1, x2, S => if x2 < (S 0 15) then (A_sort_l19 N (A_sort_l9 N n) N x1 x2 x2 S) else (chk (0 ≤ x1 ∧ x1 ≤ 1) <| some (x1, S))
theorem A_sort_l9_e (N : Nat) (n : Nat) (x1 x2 : Int) (S : s_M) : A_sort_l9 N (n + 1) x1 x2 S = (if x2 < (S 0 15) then (A_sort_l19 N (A_sort_l9 N n) N x1 x2 x2 S) else (chk (0 ≤ x1 ∧ x1 ≤ 1) <| some (x1, S))) := rfl
def A_sort (N : Nat) (S : s_M) : rO := A_sort_l9 N N 0 1 (m_s S 0 0 0)
theorem A_sort_e (N : Nat) (S : s_M) : A_sort N S = (A_sort_l9 N N 0 1 (m_s S 0 0 0)) := rfl
set_option maxHeartbeats 4000000 in
set_option maxRecDepth 100000 in
theorem a_sort (l : Launch) (D : va_G) {sh : s_S} {M0 M : s_M} {sz r  : Int} {N : Nat} {S S0 : s_M} {v0 : Int} (h : mq sh M0 M r S) (hF : A_sort N S = some (v0, S0)) : Sp l D y_Model_sort prog_14_method_44_code 5 (some .boolean) 3 0 0 [vr r] sh M sz (fun v' sh' M' sz' => v' = some (vi v0) ∧ sh' = sh ∧ sz' = sz ∧ rI v0 ∧ mq sh M0 M' r S0) := by
  have hr0 := h.1.2.1
  refine Sp.ofGo (own := "CiteForgeModel") (nm := "sort") (by decide) rfl rfl (Nat.le_of_ble_eq_true rfl) (lv := [(0, vr r)]) rfl ?_
  intro g X
  have hL9 : ∀ (n9 : Nat) (x1 x2 : Int) (S1 M1 : s_M), rI x1 → rI x2 → mq sh M0 M1 r S1 → A_sort_l9 N n9 x1 x2 S1 = some (v0, S0) → Go g 0 0 sh M1 sz 9 [(0, vr r), (1, vi x1), (2, vi x2)] [] := by
    intro n9
    induction n9 with
    | zero => intro x1 x2 S1 M1 hx1 hx2 hm hF; cases hF
    | succ n9 ih9 =>
      have hJ90 : ∀ (x1 x2 : Int) (S1 M1 : s_M), rI x1 → rI x2 → mq sh M0 M1 r S1 → A_sort_j90 N (A_sort_l9 N n9) x1 x2 S1 = some (v0, S0) → Go g 0 0 sh M1 sz 90 [(0, vr r), (1, vi x1), (2, vi x2)] [] := by
        intro x1 x2 S1 M1 hx1 hx2 hm hF
        rw [A_sort_j90_e] at hF
        obtain ⟨hc1, hF2⟩ := chk_t hF
        refine go_iinc (v := 1) (x := x2) (lv' := [(2, vi (x2 + 1)), (0, vr r), (1, vi x1)]) X d_Model_sort_90 rfl (by decide) rfl ?_
        refine go_goto (tgt := 9) X d_Model_sort_93 rfl ?_
        refine go_lv (lv' := [(0, vr r), (1, vi x1), (2, vi (x2 + 1))]) X [1, 2, 0] rfl ?_
        exact ih9 x1 (x2 + 1) S1 M1 hx1 hc1 hm hF2
      have hL19 : ∀ (n19 : Nat) (x1 x2 x3 : Int) (S1 M1 : s_M), rI x1 → rI x2 → rI x3 → mq sh M0 M1 r S1 → A_sort_l19 N (A_sort_l9 N n9) n19 x1 x2 x3 S1 = some (v0, S0) → Go g 0 0 sh M1 sz 19 [(0, vr r), (1, vi x1), (2, vi x2), (3, vi x3)] [] := by
        intro n19
        induction n19 with
        | zero => intro x1 x2 x3 S1 M1 hx1 hx2 hx3 hm hF; cases hF
        | succ n19 ih19 =>
          intro x1 x2 x3 S1 M1 hx1 hx2 hx3 hm hF
          rw [A_sort_l19_e] at hF
          refine go_iload_n X d_Model_sort_19 rfl rfl ?_
          refine go_if_le (tgt := 90) X d_Model_sort_20 rfl hx3 (fun hq3 => ?_) (fun hq3 => ?_)
          · skip
            have hF4 := if_f hF (Int.not_lt.mpr hq3)
            refine go_lv (lv' := [(0, vr r), (1, vi x1), (2, vi x2)]) X [0, 1, 2] rfl ?_
            exact hJ90 x1 x2 S1 M1 hx1 hx2 hm hF4
          · skip
            have hF5 := if_t hF hq3
            refine go_aload_n X d_Model_sort_23 rfl rfl ?_
            refine go_bipush (v := 62) X d_Model_sort_24 (by decide) ?_
            refine go_aload_n X d_Model_sort_26 rfl rfl ?_
            refine go_get (v := vr (r + 11)) X f_Model_41 hm.1.1 rfl d_Model_sort_27 (s_varr (hm.1.2.2 10 _ rfl).2 (by omega)) ?_
            refine go_iload_n X d_Model_sort_30 rfl rfl ?_
            obtain ⟨hc6, hF7⟩ := chk_t hF5
            refine go_iald X (hm.1.2.2 10 _ rfl).1 (by decide) hc6 d_Model_sort_31 ?_
            refine go_top (v' := vi (S1 11 x3)) X (congrArg (fun q => vi q) ((hm.a (by decide) x3).trans (rfl))) ?_
            refine go_iadd X d_Model_sort_32 ?_
            obtain ⟨hc8, hF9⟩ := chk_t hF7
            refine go_bipush (v := 62) X d_Model_sort_33 (by decide) ?_
            refine go_aload_n X d_Model_sort_35 rfl rfl ?_
            refine go_get (v := vr (r + 11)) X f_Model_41 hm.1.1 rfl d_Model_sort_36 (s_varr (hm.1.2.2 10 _ rfl).2 (by omega)) ?_
            refine go_iload_n X d_Model_sort_39 rfl rfl ?_
            refine go_iconst (v := 1) X d_Model_sort_40 ?_
            refine go_isub X d_Model_sort_41 ?_
            obtain ⟨hc10, hF11⟩ := chk_t hF9
            obtain ⟨hc12, hF13⟩ := chk_t hF11
            refine go_iald X (hm.1.2.2 10 _ rfl).1 (by decide) hc12 d_Model_sort_42 ?_
            refine go_top (v' := vi (S1 11 (x3 - 1))) X (congrArg (fun q => vi q) ((hm.a (by decide) (x3 - 1)).trans (rfl))) ?_
            refine go_iadd X d_Model_sort_43 ?_
            obtain ⟨hc14, hF15⟩ := chk_t hF13
            obtain ⟨v16, S17, hG18, hF19⟩ := bnd_t hF15
            refine go_cV (st2 := []) (r := []) X k_Model_243 (a_before l D hm hc8 hc14 hG18) hm.1.1 rfl rfl (by decide) (Nat.le_of_ble_eq_true rfl) d_Model_sort_44 (by decide) (by decide) (fun v' sh' M20 sz' hpp => ?_)
            obtain ⟨e1, e2, e3, hv22, md21⟩ := hpp
            subst e1
            rw [e2, e3]
            clear e2 e3
            show Go g 0 0 sh M20 sz 47 [(0, vr r), (1, vi x1), (2, vi x2), (3, vi x3)] [vi v16]
            refine go_if_eq (tgt := 90) X d_Model_sort_47 rfl hv22 (fun hq23 => ?_) (fun hq23 => ?_)
            · skip
              have hF24 := if_t hF19 hq23
              refine go_lv (lv' := [(0, vr r), (1, vi x1), (2, vi x2)]) X [0, 1, 2] rfl ?_
              exact hJ90 x1 x2 S17 M20 hx1 hx2 md21 hF24
            · skip
              have hF25 := if_f hF19 hq23
              refine go_aload_n X d_Model_sort_50 rfl rfl ?_
              refine go_get (v := vr (r + 11)) X f_Model_41 md21.1.1 rfl d_Model_sort_51 (s_varr (md21.1.2.2 10 _ rfl).2 (by omega)) ?_
              refine go_iload_n X d_Model_sort_54 rfl rfl ?_
              obtain ⟨hc26, hF27⟩ := chk_t hF25
              refine go_iald X (md21.1.2.2 10 _ rfl).1 (by decide) hc26 d_Model_sort_55 ?_
              refine go_top (v' := vi (S17 11 x3)) X (congrArg (fun q => vi q) ((md21.a (by decide) x3).trans (rfl))) ?_
              refine go_istore (lv' := [(4, vi (S17 11 x3)), (0, vr r), (1, vi x1), (2, vi x2), (3, vi x3)]) X d_Model_sort_56 (by decide) rfl ?_
              refine go_aload_n X d_Model_sort_58 rfl rfl ?_
              refine go_get (v := vr (r + 11)) X f_Model_41 md21.1.1 rfl d_Model_sort_59 (s_varr (md21.1.2.2 10 _ rfl).2 (by omega)) ?_
              refine go_iload_n X d_Model_sort_62 rfl rfl ?_
              refine go_aload_n X d_Model_sort_63 rfl rfl ?_
              refine go_get (v := vr (r + 11)) X f_Model_41 md21.1.1 rfl d_Model_sort_64 (s_varr (md21.1.2.2 10 _ rfl).2 (by omega)) ?_
              refine go_iload_n X d_Model_sort_67 rfl rfl ?_
              refine go_iconst (v := 1) X d_Model_sort_68 ?_
              refine go_isub X d_Model_sort_69 ?_
              obtain ⟨hc28, hF29⟩ := chk_t hF27
              obtain ⟨hc30, hF31⟩ := chk_t hF29
              refine go_iald X (md21.1.2.2 10 _ rfl).1 (by decide) hc30 d_Model_sort_70 ?_
              refine go_top (v' := vi (S17 11 (x3 - 1))) X (congrArg (fun q => vi q) ((md21.a (by decide) (x3 - 1)).trans (rfl))) ?_
              obtain ⟨hc32, hF33⟩ := chk_t hF31
              refine go_iast (x := (S17 11 (x3 - 1))) X (md21.1.2.2 10 _ rfl).1 (by decide) hc32 d_Model_sort_71 ?_
              have md34 : mq sh M0 (m_s M20 (r + 11) x3 (S17 11 (x3 - 1))) r (m_s S17 11 x3 (S17 11 (x3 - 1))) := md21.put (by decide) ((rg_A (by decide) (md21.gA (by decide) (x3 - 1))))
              generalize m_s M20 (r + 11) x3 (S17 11 (x3 - 1)) = M35 at md34 ⊢
              refine go_aload_n X d_Model_sort_72 rfl rfl ?_
              refine go_get (v := vr (r + 11)) X f_Model_41 md34.1.1 rfl d_Model_sort_73 (s_varr (md34.1.2.2 10 _ rfl).2 (by omega)) ?_
              refine go_iload_n X d_Model_sort_76 rfl rfl ?_
              refine go_iconst (v := 1) X d_Model_sort_77 ?_
              refine go_isub X d_Model_sort_78 ?_
              obtain ⟨hc36, hF37⟩ := chk_t hF33
              refine go_iload X d_Model_sort_79 rfl ?_
              obtain ⟨hc38, hF39⟩ := chk_t hF37
              refine go_iast (x := (S17 11 x3)) X (md34.1.2.2 10 _ rfl).1 (by decide) hc38 d_Model_sort_81 ?_
              have md40 : mq sh M0 (m_s M35 (r + 11) (x3 - 1) (S17 11 x3)) r (m_s (m_s S17 11 x3 (S17 11 (x3 - 1))) 11 (x3 - 1) (S17 11 x3)) := md34.put (by decide) ((rg_A (by decide) (md21.gA (by decide) x3)))
              generalize m_s M35 (r + 11) (x3 - 1) (S17 11 x3) = M41 at md40 ⊢
              refine go_iconst (v := 1) X d_Model_sort_82 ?_
              refine go_istore_n (lv' := [(1, vi 1), (4, vi (S17 11 x3)), (0, vr r), (2, vi x2), (3, vi x3)]) X d_Model_sort_83 rfl (by decide) rfl ?_
              obtain ⟨hc42, hF43⟩ := chk_t hF39
              refine go_iinc (v := (-1)) (x := x3) (lv' := [(3, vi (x3 + (-1))), (1, vi 1), (4, vi (S17 11 x3)), (0, vr r), (2, vi x2)]) X d_Model_sort_84 rfl (by decide) rfl ?_
              refine go_goto (tgt := 19) X d_Model_sort_87 rfl ?_
              refine go_lv (lv' := [(0, vr r), (1, vi 1), (2, vi x2), (3, vi (x3 + (-1)))]) X [3, 1, 4, 0] rfl ?_
              exact ih19 1 x2 (x3 + (-1)) (m_s (m_s S17 11 x3 (S17 11 (x3 - 1))) 11 (x3 - 1) (S17 11 x3)) M41 (by decide) hx2 hc42 md40 hF43
      intro x1 x2 S1 M1 hx1 hx2 hm hF
      rw [A_sort_l9_e] at hF
      refine go_iload_n X d_Model_sort_9 rfl rfl ?_
      refine go_aload_n X d_Model_sort_10 rfl rfl ?_
      refine go_get (v := vi (S1 0 15)) X f_Model_210 hm.1.1 rfl d_Model_sort_11 (congrArg (s_v .int) ((hm.s 15).trans (rfl))) ?_
      refine go_icmp_ge (tgt := 96) X d_Model_sort_14 rfl hx2 (hm.gS 15 (by decide) (by decide)) (fun hq44 => ?_) (fun hq44 => ?_)
      · skip
        have hF45 := if_f hF (Int.not_lt.mpr hq44)
        refine go_iload_n X d_Model_sort_96 rfl rfl ?_
        obtain ⟨hc46, hF47⟩ := chk_t hF45
        exact go_iret X d_Model_sort_97 rfl (n_nz hc46) (by decide) (by decide) (ret_i hF47 hx1 hm)
      · skip
        have hF48 := if_t hF hq44
        refine go_iload_n X d_Model_sort_17 rfl rfl ?_
        refine go_istore_n (lv' := [(3, vi x2), (0, vr r), (1, vi x1), (2, vi x2)]) X d_Model_sort_18 rfl (by decide) rfl ?_
        refine go_lv (lv' := [(0, vr r), (1, vi x1), (2, vi x2), (3, vi x2)]) X [1, 2, 3, 0] rfl ?_
        exact hL19 N x1 x2 x2 S1 M1 hx1 hx2 hx2 hm hF48
  rw [A_sort_e] at hF
  refine go_aload_n X d_Model_sort_0 rfl rfl ?_
  refine go_iconst (v := 0) X d_Model_sort_1 ?_
  refine go_put (x := 0) (v := vi 0) X f_Model_95 h.1.1 rfl d_Model_sort_2 rfl rfl rfl ?_
  have md49 : mq sh M0 (m_s M r 0 0) r (m_s S 0 0 0) := h.put0 (by decide) ((rg_S (by decide) (by decide) (by decide)))
  generalize m_s M r 0 0 = M50 at md49 ⊢
  refine go_iconst (v := 0) X d_Model_sort_5 ?_
  refine go_istore_n (lv' := [(1, vi 0), (0, vr r)]) X d_Model_sort_6 rfl (by decide) rfl ?_
  refine go_iconst (v := 1) X d_Model_sort_7 ?_
  refine go_istore_n (lv' := [(2, vi 1), (1, vi 0), (0, vr r)]) X d_Model_sort_8 rfl (by decide) rfl ?_
  refine go_lv (lv' := [(0, vr r), (1, vi 0), (2, vi 1)]) X [2, 1, 0] rfl ?_
  exact hL9 N 0 1 (m_s S 0 0 0) M50 (by decide) (by decide) md49 hF
def A_fieldOf_j65 (N : Nat) (y0 : Int) (S : s_M) : rO := some (y0, S)
theorem A_fieldOf_j65_e (N : Nat) (y0 : Int) (S : s_M) : A_fieldOf_j65 N y0 S = (some (y0, S)) := rfl
def A_fieldOf_j47 (N : Nat) (x2 y0 : Int) (S : s_M) : rO := if y0 < 0 then (A_fieldOf_j65 N (-1) S) else (bnd (A_own N y0 x2 S) fun v3 S4 => A_fieldOf_j65 N v3 S4)
theorem A_fieldOf_j47_e (N : Nat) (x2 y0 : Int) (S : s_M) : A_fieldOf_j47 N x2 y0 S = (if y0 < 0 then (A_fieldOf_j65 N (-1) S) else (bnd (A_own N y0 x2 S) fun v3 S4 => A_fieldOf_j65 N v3 S4)) := rfl
def A_fieldOf_j21 (N : Nat) (x4 : Int) (S : s_M) : rO := some (x4, S)
theorem A_fieldOf_j21_e (N : Nat) (x4 : Int) (S : s_M) : A_fieldOf_j21 N x4 S = (some (x4, S)) := rfl
def A_fieldOf (N : Nat) (x1 x2 : Int) (S : s_M) : rO := bnd (A_own N x1 x2 S) fun v11 S12 => if v11 < 0 then (if x2 = 7378429404699914851 then (A_fieldOf_j21 N v11 S12) else (bnd (A_refers N x1 S12) fun v23 S24 => if v23 = 0 then (A_fieldOf_j47 N x2 (-1) S24) else (bnd (A_refers N x1 S24) fun v32 S33 => bnd (A_findKey N v32 S33) fun v39 S40 => A_fieldOf_j47 N x2 v39 S40))) else (A_fieldOf_j21 N v11 S12)
theorem A_fieldOf_e (N : Nat) (x1 x2 : Int) (S : s_M) : A_fieldOf N x1 x2 S = (bnd (A_own N x1 x2 S) fun v11 S12 => if v11 < 0 then (if x2 = 7378429404699914851 then (A_fieldOf_j21 N v11 S12) else (bnd (A_refers N x1 S12) fun v23 S24 => if v23 = 0 then (A_fieldOf_j47 N x2 (-1) S24) else (bnd (A_refers N x1 S24) fun v32 S33 => bnd (A_findKey N v32 S33) fun v39 S40 => A_fieldOf_j47 N x2 v39 S40))) else (A_fieldOf_j21 N v11 S12)) := rfl
set_option maxHeartbeats 4000000 in
set_option maxRecDepth 100000 in
theorem a_fieldOf (l : Launch) (D : va_G) {sh : s_S} {M0 M : s_M} {sz r x1 x2 : Int} {N : Nat} {S S0 : s_M} {v0 : Int} (h : mq sh M0 M r S) (hx1 : rI x1) (hx2 : rL x2) (hF : A_fieldOf N x1 x2 S = some (v0, S0)) : Sp l D y_Model_fieldOf prog_14_method_45_code 6 (some .int) 5 0 0 [vr r, vi x1, vl x2] sh M sz (fun v' sh' M' sz' => v' = some (vi v0) ∧ sh' = sh ∧ sz' = sz ∧ rI v0 ∧ mq sh M0 M' r S0) := by
  have hr0 := h.1.2.1
  refine Sp.ofGo (own := "CiteForgeModel") (nm := "fieldOf") (by decide) rfl rfl (Nat.le_of_ble_eq_true rfl) (lv := [(0, vr r), (1, vi x1), (2, vl x2)]) rfl ?_
  intro g X
  have hJ65 : ∀ (y0 : Int) (S1 M1 : s_M), rI y0 → mq sh M0 M1 r S1 → A_fieldOf_j65 N y0 S1 = some (v0, S0) → Go g 0 0 sh M1 sz 65 [(0, vr r)] [vi y0] := by
    intro y0 S1 M1 hy0 hm hF
    rw [A_fieldOf_j65_e] at hF
    exact go_iret X d_Model_fieldOf_65 rfl rfl (by decide) (by decide) (ret_i hF hy0 hm)
  have hJ47 : ∀ (x2 y0 : Int) (S1 M1 : s_M), rL x2 → rI y0 → mq sh M0 M1 r S1 → A_fieldOf_j47 N x2 y0 S1 = some (v0, S0) → Go g 0 0 sh M1 sz 47 [(0, vr r), (2, vl x2)] [vi y0] := by
    intro x2 y0 S1 M1 hx2 hy0 hm hF
    rw [A_fieldOf_j47_e] at hF
    refine go_istore (lv' := [(5, vi y0), (0, vr r), (2, vl x2)]) X d_Model_fieldOf_47 (by decide) rfl ?_
    refine go_iload X d_Model_fieldOf_49 rfl ?_
    refine go_if_ge (tgt := 58) X d_Model_fieldOf_51 rfl hy0 (fun hq1 => ?_) (fun hq1 => ?_)
    · skip
      have hF2 := if_f hF (Int.not_lt.mpr hq1)
      refine go_aload_n X d_Model_fieldOf_58 rfl rfl ?_
      refine go_iload X d_Model_fieldOf_59 rfl ?_
      refine go_lload_n X d_Model_fieldOf_61 rfl rfl ?_
      obtain ⟨v3, S4, hG5, hF6⟩ := bnd_t hF2
      refine go_cV (st2 := []) (r := []) X k_Model_197 (a_own l D hm hy0 hx2 hG5) hm.1.1 rfl rfl (by decide) (Nat.le_of_ble_eq_true rfl) d_Model_fieldOf_62 (by decide) (by decide) (fun v' sh' M7 sz' hpp => ?_)
      obtain ⟨e1, e2, e3, hv9, md8⟩ := hpp
      subst e1
      rw [e2, e3]
      clear e2 e3
      show Go g 0 0 sh M7 sz 65 [(5, vi y0), (0, vr r), (2, vl x2)] [vi v3]
      refine go_lv (lv' := [(0, vr r)]) X [1] rfl ?_
      exact hJ65 v3 S4 M7 hv9 md8 hF6
    · skip
      have hF10 := if_t hF hq1
      refine go_iconst (v := (-1)) X d_Model_fieldOf_54 ?_
      refine go_goto (tgt := 65) X d_Model_fieldOf_55 rfl ?_
      refine go_lv (lv' := [(0, vr r)]) X [1] rfl ?_
      exact hJ65 (-1) S1 M1 (by decide) hm hF10
  have hJ21 : ∀ (x4 : Int) (S1 M1 : s_M), rI x4 → mq sh M0 M1 r S1 → A_fieldOf_j21 N x4 S1 = some (v0, S0) → Go g 0 0 sh M1 sz 21 [(0, vr r), (4, vi x4)] [] := by
    intro x4 S1 M1 hx4 hm hF
    rw [A_fieldOf_j21_e] at hF
    refine go_iload X d_Model_fieldOf_21 rfl ?_
    exact go_iret X d_Model_fieldOf_23 rfl rfl (by decide) (by decide) (ret_i hF hx4 hm)
  rw [A_fieldOf_e] at hF
  refine go_aload_n X d_Model_fieldOf_0 rfl rfl ?_
  refine go_iload_n X d_Model_fieldOf_1 rfl rfl ?_
  refine go_lload_n X d_Model_fieldOf_2 rfl rfl ?_
  obtain ⟨v11, S12, hG13, hF14⟩ := bnd_t hF
  refine go_cV (st2 := []) (r := []) X k_Model_197 (a_own l D h hx1 hx2 hG13) h.1.1 rfl rfl (by decide) (Nat.le_of_ble_eq_true rfl) d_Model_fieldOf_3 (by decide) (by decide) (fun v' sh' M15 sz' hpp => ?_)
  obtain ⟨e1, e2, e3, hv17, md16⟩ := hpp
  subst e1
  rw [e2, e3]
  clear e2 e3
  show Go g 0 0 sh M15 sz 6 [(0, vr r), (1, vi x1), (2, vl x2)] [vi v11]
  refine go_istore (lv' := [(4, vi v11), (0, vr r), (1, vi x1), (2, vl x2)]) X d_Model_fieldOf_6 (by decide) rfl ?_
  refine go_iload X d_Model_fieldOf_8 rfl ?_
  refine go_if_ge (tgt := 21) X d_Model_fieldOf_10 rfl hv17 (fun hq18 => ?_) (fun hq18 => ?_)
  · skip
    have hF19 := if_f hF14 (Int.not_lt.mpr hq18)
    refine go_lv (lv' := [(0, vr r), (4, vi v11)]) X [1, 0] rfl ?_
    exact hJ21 v11 S12 M15 hv17 md16 hF19
  · skip
    have hF20 := if_t hF14 hq18
    refine go_lload_n X d_Model_fieldOf_13 rfl rfl ?_
    refine go_ldc2 (x := 7378429404699914851) X w_kl_Model_231 (by decide) d_Model_fieldOf_14 ?_
    refine go_lcmp X hx2 (by decide) d_Model_fieldOf_17 ?_
    refine go_if_ne (tgt := 24) X d_Model_fieldOf_18 rfl (rI_cmp _ _) (fun hq21 => ?_) (fun hq21 => ?_)
    · skip
      have hF22 := if_f hF20 (sc_ne hq21)
      refine go_aload_n X d_Model_fieldOf_24 rfl rfl ?_
      refine go_iload_n X d_Model_fieldOf_25 rfl rfl ?_
      obtain ⟨v23, S24, hG25, hF26⟩ := bnd_t hF22
      refine go_cV (st2 := []) (r := []) X k_Model_237 (a_refers l D md16 hx1 hG25) md16.1.1 rfl rfl (by decide) (Nat.le_of_ble_eq_true rfl) d_Model_fieldOf_26 (by decide) (by decide) (fun v' sh' M27 sz' hpp => ?_)
      obtain ⟨e1, e2, e3, hv29, md28⟩ := hpp
      subst e1
      rw [e2, e3]
      clear e2 e3
      show Go g 0 0 sh M27 sz 29 [(4, vi v11), (0, vr r), (1, vi x1), (2, vl x2)] [vl v23]
      refine go_lconst (x := 0) X d_Model_fieldOf_29 (by decide) ?_
      refine go_lcmp X hv29 (by decide) d_Model_fieldOf_30 ?_
      refine go_if_ne (tgt := 38) X d_Model_fieldOf_31 rfl (rI_cmp _ _) (fun hq30 => ?_) (fun hq30 => ?_)
      · skip
        have hF31 := if_f hF26 (sc_ne hq30)
        refine go_aload_n X d_Model_fieldOf_38 rfl rfl ?_
        refine go_aload_n X d_Model_fieldOf_39 rfl rfl ?_
        refine go_iload_n X d_Model_fieldOf_40 rfl rfl ?_
        obtain ⟨v32, S33, hG34, hF35⟩ := bnd_t hF31
        refine go_cV (st2 := []) (r := [vr r]) X k_Model_237 (a_refers l D md28 hx1 hG34) md28.1.1 rfl rfl (by decide) (Nat.le_of_ble_eq_true rfl) d_Model_fieldOf_41 (by decide) (by decide) (fun v' sh' M36 sz' hpp => ?_)
        obtain ⟨e1, e2, e3, hv38, md37⟩ := hpp
        subst e1
        rw [e2, e3]
        clear e2 e3
        show Go g 0 0 sh M36 sz 44 [(4, vi v11), (0, vr r), (1, vi x1), (2, vl x2)] [vl v32, vr r]
        obtain ⟨v39, S40, hG41, hF42⟩ := bnd_t hF35
        refine go_cV (st2 := []) (r := []) X k_Model_207 (a_findKey l D md37 hv38 hG41) md37.1.1 rfl rfl (by decide) (Nat.le_of_ble_eq_true rfl) d_Model_fieldOf_44 (by decide) (by decide) (fun v' sh' M43 sz' hpp => ?_)
        obtain ⟨e1, e2, e3, hv45, md44⟩ := hpp
        subst e1
        rw [e2, e3]
        clear e2 e3
        show Go g 0 0 sh M43 sz 47 [(4, vi v11), (0, vr r), (1, vi x1), (2, vl x2)] [vi v39]
        refine go_lv (lv' := [(0, vr r), (2, vl x2)]) X [1, 3] rfl ?_
        exact hJ47 x2 v39 S40 M43 hx2 hv45 md44 hF42
      · skip
        have hF46 := if_t hF26 (s_cmp0 hq30)
        refine go_iconst (v := (-1)) X d_Model_fieldOf_34 ?_
        refine go_goto (tgt := 47) X d_Model_fieldOf_35 rfl ?_
        refine go_lv (lv' := [(0, vr r), (2, vl x2)]) X [1, 3] rfl ?_
        exact hJ47 x2 (-1) S24 M27 hx2 (by decide) md28 hF46
    · skip
      have hF47 := if_t hF20 (s_cmp0 hq21)
      refine go_lv (lv' := [(0, vr r), (4, vi v11)]) X [1, 0] rfl ?_
      exact hJ21 v11 S12 M15 hv17 md16 hF47
def A_field_j86 (N : Nat) (y0 : Int) (S : s_M) : rO := some (y0, S)
theorem A_field_j86_e (N : Nat) (y0 : Int) (S : s_M) : A_field_j86 N y0 S = (some (y0, S)) := rfl
def A_field (N : Nat) (x1 x2 x4 : Int) (S : s_M) : rO := chk (rI ((S 0 15) - 1)) <| if (decide (0 ≤ x1 ∧ x1 ≤ ((S 0 15) - 1))) = true then (chk (0 ≤ x1 ∧ x1 < 8) <| chk (rL (mwof (u64 x2))) <| bnd (A_fieldOf N (S 11 x1) (mwof (u64 x2)) (m_s S 0 0 0)) fun v11 S12 => if v11 < 0 then (bnd (A_fail N 2 S12) fun v42 S43 => some (v42, S43)) else (chk (0 ≤ v11 ∧ v11 < 85) <| chk (rI ((S12 3 v11) - 1)) <| if (decide (0 ≤ x4 ∧ x4 ≤ ((S12 3 v11) - 1))) = true then (bnd (A_at N v11 x4 S12) fun v34 S35 => A_field_j86 N v34 S35) else (bnd (A_fail N 1 S12) fun v26 S27 => A_field_j86 N v26 S27))) else (bnd (A_fail N 1 (m_s S 0 0 0)) fun v50 S51 => some (v50, S51))
theorem A_field_e (N : Nat) (x1 x2 x4 : Int) (S : s_M) : A_field N x1 x2 x4 S = (chk (rI ((S 0 15) - 1)) <| if (decide (0 ≤ x1 ∧ x1 ≤ ((S 0 15) - 1))) = true then (chk (0 ≤ x1 ∧ x1 < 8) <| chk (rL (mwof (u64 x2))) <| bnd (A_fieldOf N (S 11 x1) (mwof (u64 x2)) (m_s S 0 0 0)) fun v11 S12 => if v11 < 0 then (bnd (A_fail N 2 S12) fun v42 S43 => some (v42, S43)) else (chk (0 ≤ v11 ∧ v11 < 85) <| chk (rI ((S12 3 v11) - 1)) <| if (decide (0 ≤ x4 ∧ x4 ≤ ((S12 3 v11) - 1))) = true then (bnd (A_at N v11 x4 S12) fun v34 S35 => A_field_j86 N v34 S35) else (bnd (A_fail N 1 S12) fun v26 S27 => A_field_j86 N v26 S27))) else (bnd (A_fail N 1 (m_s S 0 0 0)) fun v50 S51 => some (v50, S51))) := rfl
set_option maxHeartbeats 4000000 in
set_option maxRecDepth 100000 in
theorem a_field (l : Launch) (D : va_G) {sh : s_S} {M0 M : s_M} {sz r x1 x2 x4 : Int} {N : Nat} {S S0 : s_M} {v0 : Int} (h : mq sh M0 M r S) (hx1 : rI x1) (hx2 : rL x2) (hx4 : rI x4) (hF : A_field N x1 x2 x4 S = some (v0, S0)) : Sp l D y_Model_field prog_14_method_46_code 6 (some .int) 6 0 0 [vr r, vi x1, vl x2, vi x4] sh M sz (fun v' sh' M' sz' => v' = some (vi v0) ∧ sh' = sh ∧ sz' = sz ∧ rI v0 ∧ mq sh M0 M' r S0) := by
  have hr0 := h.1.2.1
  refine Sp.ofGo (own := "CiteForgeModel") (nm := "field") (by decide) rfl rfl (Nat.le_of_ble_eq_true rfl) (lv := [(0, vr r), (1, vi x1), (2, vl x2), (4, vi x4)]) rfl ?_
  intro g X
  have hJ86 : ∀ (y0 : Int) (S1 M1 : s_M), rI y0 → mq sh M0 M1 r S1 → A_field_j86 N y0 S1 = some (v0, S0) → Go g 0 0 sh M1 sz 86 [(0, vr r)] [vi y0] := by
    intro y0 S1 M1 hy0 hm hF
    rw [A_field_j86_e] at hF
    exact go_iret X d_Model_field_86 rfl rfl (by decide) (by decide) (ret_i hF hy0 hm)
  rw [A_field_e] at hF
  refine go_aload_n X d_Model_field_0 rfl rfl ?_
  refine go_iconst (v := 0) X d_Model_field_1 ?_
  refine go_put (x := 0) (v := vi 0) X f_Model_95 h.1.1 rfl d_Model_field_2 rfl rfl rfl ?_
  have md1 : mq sh M0 (m_s M r 0 0) r (m_s S 0 0 0) := h.put0 (by decide) ((rg_S (by decide) (by decide) (by decide)))
  generalize m_s M r 0 0 = M2 at md1 ⊢
  refine go_iload_n X d_Model_field_5 rfl rfl ?_
  refine go_iconst (v := 0) X d_Model_field_6 ?_
  refine go_aload_n X d_Model_field_7 rfl rfl ?_
  refine go_get (v := vi (S 0 15)) X f_Model_210 md1.1.1 rfl d_Model_field_8 (congrArg (s_v .int) ((md1.s 15).trans ((m_sj (by decide)).trans (rfl)))) ?_
  refine go_iconst (v := 1) X d_Model_field_11 ?_
  refine go_isub X d_Model_field_12 ?_
  obtain ⟨hc3, hF4⟩ := chk_t hF
  refine go_cSf (st2 := [vi (s_b (decide (0 ≤ x1 ∧ x1 ≤ ((S 0 15) - 1))))]) (r := []) X k_Model_103 (m_within l D hx1 (by decide) hc3) rfl rfl (by decide) (Nat.le_of_ble_eq_true rfl) d_Model_field_13 (by decide) (by decide) rfl ?_
  refine go_ifb_ne (tgt := 25) X d_Model_field_16 rfl (fun hq5 => ?_) (fun hq5 => ?_)
  · skip
    have hF6 := if_t hF4 hq5
    refine go_aload_n X d_Model_field_25 rfl rfl ?_
    refine go_aload_n X d_Model_field_26 rfl rfl ?_
    refine go_get (v := vr (r + 11)) X f_Model_41 md1.1.1 rfl d_Model_field_27 (s_varr (md1.1.2.2 10 _ rfl).2 (by omega)) ?_
    refine go_iload_n X d_Model_field_30 rfl rfl ?_
    obtain ⟨hc7, hF8⟩ := chk_t hF6
    refine go_iald X (md1.1.2.2 10 _ rfl).1 (by decide) hc7 d_Model_field_31 ?_
    refine go_top (v' := vi (S 11 x1)) X (congrArg (fun q => vi q) ((md1.a (by decide) x1).trans ((m_sk (by decide)).trans (rfl)))) ?_
    refine go_lload_n X d_Model_field_32 rfl rfl ?_
    refine go_top (v' := vl (u64 x2)) X (u64_vl _) ?_
    obtain ⟨hc9, hF10⟩ := chk_t hF8
    refine go_cSf (st2 := [vl (mwof (u64 x2)), vi (S 11 x1), vr r]) (r := [vi (S 11 x1), vr r]) X k_Model_224 (m_wordOf l D (u64_rng _)) rfl rfl (by decide) (Nat.le_of_ble_eq_true rfl) d_Model_field_33 (by decide) (by decide) rfl ?_
    obtain ⟨v11, S12, hG13, hF14⟩ := bnd_t hF10
    refine go_cV (st2 := []) (r := []) X k_Model_247 (a_fieldOf l D md1 (rI_eq (md1.gA (by decide) x1) ((m_sk (by decide)).trans (rfl))) hc9 hG13) md1.1.1 rfl rfl (by decide) (Nat.le_of_ble_eq_true rfl) d_Model_field_36 (by decide) (by decide) (fun v' sh' M15 sz' hpp => ?_)
    obtain ⟨e1, e2, e3, hv17, md16⟩ := hpp
    subst e1
    rw [e2, e3]
    clear e2 e3
    show Go g 0 0 sh M15 sz 39 [(0, vr r), (1, vi x1), (2, vl x2), (4, vi x4)] [vi v11]
    refine go_istore (lv' := [(5, vi v11), (0, vr r), (1, vi x1), (2, vl x2), (4, vi x4)]) X d_Model_field_39 (by decide) rfl ?_
    refine go_iload X d_Model_field_41 rfl ?_
    refine go_if_ge (tgt := 52) X d_Model_field_43 rfl hv17 (fun hq18 => ?_) (fun hq18 => ?_)
    · skip
      have hF19 := if_f hF14 (Int.not_lt.mpr hq18)
      refine go_iload X d_Model_field_52 rfl ?_
      refine go_iconst (v := 0) X d_Model_field_54 ?_
      refine go_aload_n X d_Model_field_55 rfl rfl ?_
      refine go_get (v := vr (r + 3)) X f_Model_16 md16.1.1 rfl d_Model_field_56 (s_varr (md16.1.2.2 2 _ rfl).2 (by omega)) ?_
      refine go_iload X d_Model_field_59 rfl ?_
      obtain ⟨hc20, hF21⟩ := chk_t hF19
      refine go_iald X (md16.1.2.2 2 _ rfl).1 (by decide) hc20 d_Model_field_61 ?_
      refine go_top (v' := vi (S12 3 v11)) X (congrArg (fun q => vi q) ((md16.a (by decide) v11).trans (rfl))) ?_
      refine go_iconst (v := 1) X d_Model_field_62 ?_
      refine go_isub X d_Model_field_63 ?_
      obtain ⟨hc22, hF23⟩ := chk_t hF21
      refine go_cSf (st2 := [vi (s_b (decide (0 ≤ x4 ∧ x4 ≤ ((S12 3 v11) - 1))))]) (r := []) X k_Model_103 (m_within l D hx4 (by decide) hc22) rfl rfl (by decide) (Nat.le_of_ble_eq_true rfl) d_Model_field_64 (by decide) (by decide) rfl ?_
      refine go_ifb_eq (tgt := 81) X d_Model_field_67 rfl (fun hq24 => ?_) (fun hq24 => ?_)
      · skip
        have hF25 := if_f hF23 (bnf hq24)
        refine go_aload_n X d_Model_field_81 rfl rfl ?_
        refine go_iconst (v := 1) X d_Model_field_82 ?_
        obtain ⟨v26, S27, hG28, hF29⟩ := bnd_t hF25
        refine go_cV (st2 := []) (r := []) X k_Model_128 (a_fail l D md16 (by decide) hG28) md16.1.1 rfl rfl (by decide) (Nat.le_of_ble_eq_true rfl) d_Model_field_83 (by decide) (by decide) (fun v' sh' M30 sz' hpp => ?_)
        obtain ⟨e1, e2, e3, hv32, md31⟩ := hpp
        subst e1
        rw [e2, e3]
        clear e2 e3
        show Go g 0 0 sh M30 sz 86 [(5, vi v11), (0, vr r), (1, vi x1), (2, vl x2), (4, vi x4)] [vi v26]
        refine go_lv (lv' := [(0, vr r)]) X [1] rfl ?_
        exact hJ86 v26 S27 M30 hv32 md31 hF29
      · skip
        have hF33 := if_t hF23 hq24
        refine go_aload_n X d_Model_field_70 rfl rfl ?_
        refine go_iload X d_Model_field_71 rfl ?_
        refine go_iload X d_Model_field_73 rfl ?_
        obtain ⟨v34, S35, hG36, hF37⟩ := bnd_t hF33
        refine go_cV (st2 := []) (r := []) X k_Model_99 (a_at l D md16 hv17 hx4 hG36) md16.1.1 rfl rfl (by decide) (Nat.le_of_ble_eq_true rfl) d_Model_field_75 (by decide) (by decide) (fun v' sh' M38 sz' hpp => ?_)
        obtain ⟨e1, e2, e3, hv40, md39⟩ := hpp
        subst e1
        rw [e2, e3]
        clear e2 e3
        show Go g 0 0 sh M38 sz 78 [(5, vi v11), (0, vr r), (1, vi x1), (2, vl x2), (4, vi x4)] [vi v34]
        refine go_goto (tgt := 86) X d_Model_field_78 rfl ?_
        refine go_lv (lv' := [(0, vr r)]) X [1] rfl ?_
        exact hJ86 v34 S35 M38 hv40 md39 hF37
    · skip
      have hF41 := if_t hF14 hq18
      refine go_aload_n X d_Model_field_46 rfl rfl ?_
      refine go_iconst (v := 2) X d_Model_field_47 ?_
      obtain ⟨v42, S43, hG44, hF45⟩ := bnd_t hF41
      refine go_cV (st2 := []) (r := []) X k_Model_128 (a_fail l D md16 (by decide) hG44) md16.1.1 rfl rfl (by decide) (Nat.le_of_ble_eq_true rfl) d_Model_field_48 (by decide) (by decide) (fun v' sh' M46 sz' hpp => ?_)
      obtain ⟨e1, e2, e3, hv48, md47⟩ := hpp
      subst e1
      rw [e2, e3]
      clear e2 e3
      show Go g 0 0 sh M46 sz 51 [(5, vi v11), (0, vr r), (1, vi x1), (2, vl x2), (4, vi x4)] [vi v42]
      exact go_iret X d_Model_field_51 rfl rfl (by decide) (by decide) (ret_i hF45 hv48 md47)
  · skip
    have hF49 := if_f hF4 (bnf hq5)
    refine go_aload_n X d_Model_field_19 rfl rfl ?_
    refine go_iconst (v := 1) X d_Model_field_20 ?_
    obtain ⟨v50, S51, hG52, hF53⟩ := bnd_t hF49
    refine go_cV (st2 := []) (r := []) X k_Model_128 (a_fail l D md1 (by decide) hG52) md1.1.1 rfl rfl (by decide) (Nat.le_of_ble_eq_true rfl) d_Model_field_21 (by decide) (by decide) (fun v' sh' M54 sz' hpp => ?_)
    obtain ⟨e1, e2, e3, hv56, md55⟩ := hpp
    subst e1
    rw [e2, e3]
    clear e2 e3
    show Go g 0 0 sh M54 sz 24 [(0, vr r), (1, vi x1), (2, vl x2), (4, vi x4)] [vi v50]
    exact go_iret X d_Model_field_24 rfl rfl (by decide) (by decide) (ret_i hF53 hv56 md55)
def A_define_j24 (N : Nat) (S : s_M) : rO := bnd (A_fail N 1 S) fun v1 S2 => some (v1, S2)
theorem A_define_j24_e (N : Nat) (S : s_M) : A_define_j24 N S = (bnd (A_fail N 1 S) fun v1 S2 => some (v1, S2)) := rfl
def A_define (N : Nat) (x1 x2 x3 : Int) (S : s_M) : rO := if (decide (0 ≤ x1 ∧ x1 ≤ 5)) = true then (if (decide (0 ≤ x2 ∧ x2 ≤ 29)) = true then (chk (0 ≤ x1 ∧ x1 < 6) <| if (S 12 x1) = 24 then (bnd (A_fail N 2 (m_s S 0 0 0)) fun v50 S51 => some (v50, S51)) else (chk (rI (24 * x1)) <| chk (0 ≤ x1 ∧ x1 < 6) <| chk (rI ((24 * x1) + (S 12 x1))) <| chk (0 ≤ ((24 * x1) + (S 12 x1)) ∧ ((24 * x1) + (S 12 x1)) < 144) <| chk (rI (24 * x1)) <| chk (0 ≤ x1 ∧ x1 < 6) <| chk (rI ((24 * x1) + (S 12 x1))) <| chk (0 ≤ ((24 * x1) + (S 12 x1)) ∧ ((24 * x1) + (S 12 x1)) < 144) <| chk (0 ≤ x1 ∧ x1 < 6) <| chk (rI ((S 12 x1) + 1)) <| chk (0 ≤ x1 ∧ x1 < 6) <| chk (0 ≤ x1 ∧ x1 < 6) <| some ((S 12 x1) + 1, m_s (m_s (m_s (m_s S 0 0 0) 13 ((24 * x1) + (S 12 x1)) x2) 14 ((24 * x1) + (S 12 x1)) x3) 12 x1 ((S 12 x1) + 1)))) else (A_define_j24 N  (m_s S 0 0 0))) else (A_define_j24 N  (m_s S 0 0 0))
theorem A_define_e (N : Nat) (x1 x2 x3 : Int) (S : s_M) : A_define N x1 x2 x3 S = (if (decide (0 ≤ x1 ∧ x1 ≤ 5)) = true then (if (decide (0 ≤ x2 ∧ x2 ≤ 29)) = true then (chk (0 ≤ x1 ∧ x1 < 6) <| if (S 12 x1) = 24 then (bnd (A_fail N 2 (m_s S 0 0 0)) fun v50 S51 => some (v50, S51)) else (chk (rI (24 * x1)) <| chk (0 ≤ x1 ∧ x1 < 6) <| chk (rI ((24 * x1) + (S 12 x1))) <| chk (0 ≤ ((24 * x1) + (S 12 x1)) ∧ ((24 * x1) + (S 12 x1)) < 144) <| chk (rI (24 * x1)) <| chk (0 ≤ x1 ∧ x1 < 6) <| chk (rI ((24 * x1) + (S 12 x1))) <| chk (0 ≤ ((24 * x1) + (S 12 x1)) ∧ ((24 * x1) + (S 12 x1)) < 144) <| chk (0 ≤ x1 ∧ x1 < 6) <| chk (rI ((S 12 x1) + 1)) <| chk (0 ≤ x1 ∧ x1 < 6) <| chk (0 ≤ x1 ∧ x1 < 6) <| some ((S 12 x1) + 1, m_s (m_s (m_s (m_s S 0 0 0) 13 ((24 * x1) + (S 12 x1)) x2) 14 ((24 * x1) + (S 12 x1)) x3) 12 x1 ((S 12 x1) + 1)))) else (A_define_j24 N  (m_s S 0 0 0))) else (A_define_j24 N  (m_s S 0 0 0))) := rfl
set_option maxHeartbeats 4000000 in
set_option maxRecDepth 100000 in
theorem a_define (l : Launch) (D : va_G) {sh : s_S} {M0 M : s_M} {sz r x1 x2 x3 : Int} {N : Nat} {S S0 : s_M} {v0 : Int} (h : mq sh M0 M r S) (hx1 : rI x1) (hx2 : rI x2) (hx3 : rL x3) (hF : A_define N x1 x2 x3 S = some (v0, S0)) : Sp l D y_Model_define prog_14_method_47_code 5 (some .int) 2 0 0 [vr r, vi x1, vi x2, vl x3] sh M sz (fun v' sh' M' sz' => v' = some (vi v0) ∧ sh' = sh ∧ sz' = sz ∧ rI v0 ∧ mq sh M0 M' r S0) := by
  have hr0 := h.1.2.1
  refine Sp.ofGo (own := "CiteForgeModel") (nm := "define") (by decide) rfl rfl (Nat.le_of_ble_eq_true rfl) (lv := [(0, vr r), (1, vi x1), (2, vi x2), (3, vl x3)]) rfl ?_
  intro g X
  have hJ24 : ∀ (S1 M1 : s_M), mq sh M0 M1 r S1 → A_define_j24 N S1 = some (v0, S0) → Go g 0 0 sh M1 sz 24 [(0, vr r)] [] := by
    intro S1 M1 hm hF
    rw [A_define_j24_e] at hF
    refine go_aload_n X d_Model_define_24 rfl rfl ?_
    refine go_iconst (v := 1) X d_Model_define_25 ?_
    obtain ⟨v1, S2, hG3, hF4⟩ := bnd_t hF
    refine go_cV (st2 := []) (r := []) X k_Model_128 (a_fail l D hm (by decide) hG3) hm.1.1 rfl rfl (by decide) (Nat.le_of_ble_eq_true rfl) d_Model_define_26 (by decide) (by decide) (fun v' sh' M5 sz' hpp => ?_)
    obtain ⟨e1, e2, e3, hv7, md6⟩ := hpp
    subst e1
    rw [e2, e3]
    clear e2 e3
    show Go g 0 0 sh M5 sz 29 [(0, vr r)] [vi v1]
    exact go_iret X d_Model_define_29 rfl rfl (by decide) (by decide) (ret_i hF4 hv7 md6)
  rw [A_define_e] at hF
  refine go_aload_n X d_Model_define_0 rfl rfl ?_
  refine go_iconst (v := 0) X d_Model_define_1 ?_
  refine go_put (x := 0) (v := vi 0) X f_Model_95 h.1.1 rfl d_Model_define_2 rfl rfl rfl ?_
  have md8 : mq sh M0 (m_s M r 0 0) r (m_s S 0 0 0) := h.put0 (by decide) ((rg_S (by decide) (by decide) (by decide)))
  generalize m_s M r 0 0 = M9 at md8 ⊢
  refine go_iload_n X d_Model_define_5 rfl rfl ?_
  refine go_iconst (v := 0) X d_Model_define_6 ?_
  refine go_iconst (v := 5) X d_Model_define_7 ?_
  refine go_cSf (st2 := [vi (s_b (decide (0 ≤ x1 ∧ x1 ≤ 5)))]) (r := []) X k_Model_103 (m_within l D hx1 (by decide) (by decide)) rfl rfl (by decide) (Nat.le_of_ble_eq_true rfl) d_Model_define_8 (by decide) (by decide) rfl ?_
  refine go_ifb_eq (tgt := 24) X d_Model_define_11 rfl (fun hq10 => ?_) (fun hq10 => ?_)
  · skip
    have hF11 := if_f hF (bnf hq10)
    refine go_lv (lv' := [(0, vr r)]) X [0] rfl ?_
    exact hJ24  (m_s S 0 0 0) M9  md8 hF11
  · skip
    have hF12 := if_t hF hq10
    refine go_iload_n X d_Model_define_14 rfl rfl ?_
    refine go_iconst (v := 0) X d_Model_define_15 ?_
    refine go_bipush (v := 29) X d_Model_define_16 (by decide) ?_
    refine go_cSf (st2 := [vi (s_b (decide (0 ≤ x2 ∧ x2 ≤ 29)))]) (r := []) X k_Model_103 (m_within l D hx2 (by decide) (by decide)) rfl rfl (by decide) (Nat.le_of_ble_eq_true rfl) d_Model_define_18 (by decide) (by decide) rfl ?_
    refine go_ifb_ne (tgt := 30) X d_Model_define_21 rfl (fun hq13 => ?_) (fun hq13 => ?_)
    · skip
      have hF14 := if_t hF12 hq13
      refine go_aload_n X d_Model_define_30 rfl rfl ?_
      refine go_get (v := vr (r + 12)) X f_Model_44 md8.1.1 rfl d_Model_define_31 (s_varr (md8.1.2.2 11 _ rfl).2 (by omega)) ?_
      refine go_iload_n X d_Model_define_34 rfl rfl ?_
      obtain ⟨hc15, hF16⟩ := chk_t hF14
      refine go_iald X (md8.1.2.2 11 _ rfl).1 (by decide) hc15 d_Model_define_35 ?_
      refine go_top (v' := vi (S 12 x1)) X (congrArg (fun q => vi q) ((md8.a (by decide) x1).trans ((m_sk (by decide)).trans (rfl)))) ?_
      refine go_bipush (v := 24) X d_Model_define_36 (by decide) ?_
      refine go_icmp_ne (tgt := 47) X d_Model_define_38 rfl (rI_eq (md8.gA (by decide) x1) ((m_sk (by decide)).trans (rfl))) (by decide) (fun hq17 => ?_) (fun hq17 => ?_)
      · skip
        have hF18 := if_f hF16 hq17
        refine go_aload_n X d_Model_define_47 rfl rfl ?_
        refine go_get (v := vr (r + 13)) X f_Model_47 md8.1.1 rfl d_Model_define_48 (s_varr (md8.1.2.2 12 _ rfl).2 (by omega)) ?_
        refine go_bipush (v := 24) X d_Model_define_51 (by decide) ?_
        refine go_iload_n X d_Model_define_53 rfl rfl ?_
        refine go_imul X d_Model_define_54 ?_
        obtain ⟨hc19, hF20⟩ := chk_t hF18
        refine go_aload_n X d_Model_define_55 rfl rfl ?_
        refine go_get (v := vr (r + 12)) X f_Model_44 md8.1.1 rfl d_Model_define_56 (s_varr (md8.1.2.2 11 _ rfl).2 (by omega)) ?_
        refine go_iload_n X d_Model_define_59 rfl rfl ?_
        obtain ⟨hc21, hF22⟩ := chk_t hF20
        refine go_iald X (md8.1.2.2 11 _ rfl).1 (by decide) hc21 d_Model_define_60 ?_
        refine go_top (v' := vi (S 12 x1)) X (congrArg (fun q => vi q) ((md8.a (by decide) x1).trans ((m_sk (by decide)).trans (rfl)))) ?_
        refine go_iadd X d_Model_define_61 ?_
        obtain ⟨hc23, hF24⟩ := chk_t hF22
        refine go_iload_n X d_Model_define_62 rfl rfl ?_
        obtain ⟨hc25, hF26⟩ := chk_t hF24
        refine go_iast (x := x2) X (md8.1.2.2 12 _ rfl).1 (by decide) hc25 d_Model_define_63 ?_
        have md27 : mq sh M0 (m_s M9 (r + 13) ((24 * x1) + (S 12 x1)) x2) r (m_s (m_s S 0 0 0) 13 ((24 * x1) + (S 12 x1)) x2) := md8.put (by decide) ((rg_A (by decide) hx2))
        generalize m_s M9 (r + 13) ((24 * x1) + (S 12 x1)) x2 = M28 at md27 ⊢
        refine go_aload_n X d_Model_define_64 rfl rfl ?_
        refine go_get (v := vr (r + 14)) X f_Model_50 md27.1.1 rfl d_Model_define_65 (s_varr (md27.1.2.2 13 _ rfl).2 (by omega)) ?_
        refine go_bipush (v := 24) X d_Model_define_68 (by decide) ?_
        refine go_iload_n X d_Model_define_70 rfl rfl ?_
        refine go_imul X d_Model_define_71 ?_
        obtain ⟨hc29, hF30⟩ := chk_t hF26
        refine go_aload_n X d_Model_define_72 rfl rfl ?_
        refine go_get (v := vr (r + 12)) X f_Model_44 md27.1.1 rfl d_Model_define_73 (s_varr (md27.1.2.2 11 _ rfl).2 (by omega)) ?_
        refine go_iload_n X d_Model_define_76 rfl rfl ?_
        obtain ⟨hc31, hF32⟩ := chk_t hF30
        refine go_iald X (md27.1.2.2 11 _ rfl).1 (by decide) hc31 d_Model_define_77 ?_
        refine go_top (v' := vi (S 12 x1)) X (congrArg (fun q => vi q) ((md27.a (by decide) x1).trans ((m_sk (by decide)).trans ((m_sk (by decide)).trans (rfl))))) ?_
        refine go_iadd X d_Model_define_78 ?_
        obtain ⟨hc33, hF34⟩ := chk_t hF32
        refine go_lload_n X d_Model_define_79 rfl rfl ?_
        obtain ⟨hc35, hF36⟩ := chk_t hF34
        refine go_last (x := x3) X (md27.1.2.2 13 _ rfl).1 (by decide) hc35 d_Model_define_80 ?_
        have md37 : mq sh M0 (m_s M28 (r + 14) ((24 * x1) + (S 12 x1)) x3) r (m_s (m_s (m_s S 0 0 0) 13 ((24 * x1) + (S 12 x1)) x2) 14 ((24 * x1) + (S 12 x1)) x3) := md27.put (by decide) ((rg_L (by decide) hx3))
        generalize m_s M28 (r + 14) ((24 * x1) + (S 12 x1)) x3 = M38 at md37 ⊢
        refine go_aload_n X d_Model_define_81 rfl rfl ?_
        refine go_get (v := vr (r + 12)) X f_Model_44 md37.1.1 rfl d_Model_define_82 (s_varr (md37.1.2.2 11 _ rfl).2 (by omega)) ?_
        refine go_iload_n X d_Model_define_85 rfl rfl ?_
        refine go_dup2 X d_Model_define_86 rfl rfl ?_
        obtain ⟨hc39, hF40⟩ := chk_t hF36
        refine go_iald X (md37.1.2.2 11 _ rfl).1 (by decide) hc39 d_Model_define_87 ?_
        refine go_top (v' := vi (S 12 x1)) X (congrArg (fun q => vi q) ((md37.a (by decide) x1).trans ((m_sk (by decide)).trans ((m_sk (by decide)).trans ((m_sk (by decide)).trans (rfl)))))) ?_
        refine go_iconst (v := 1) X d_Model_define_88 ?_
        refine go_iadd X d_Model_define_89 ?_
        obtain ⟨hc41, hF42⟩ := chk_t hF40
        obtain ⟨hc43, hF44⟩ := chk_t hF42
        refine go_iast (x := ((S 12 x1) + 1)) X (md37.1.2.2 11 _ rfl).1 (by decide) hc43 d_Model_define_90 ?_
        have md45 : mq sh M0 (m_s M38 (r + 12) x1 ((S 12 x1) + 1)) r (m_s (m_s (m_s (m_s S 0 0 0) 13 ((24 * x1) + (S 12 x1)) x2) 14 ((24 * x1) + (S 12 x1)) x3) 12 x1 ((S 12 x1) + 1)) := md37.put (by decide) ((rg_A (by decide) hc41))
        generalize m_s M38 (r + 12) x1 ((S 12 x1) + 1) = M46 at md45 ⊢
        refine go_aload_n X d_Model_define_91 rfl rfl ?_
        refine go_get (v := vr (r + 12)) X f_Model_44 md45.1.1 rfl d_Model_define_92 (s_varr (md45.1.2.2 11 _ rfl).2 (by omega)) ?_
        refine go_iload_n X d_Model_define_95 rfl rfl ?_
        obtain ⟨hc47, hF48⟩ := chk_t hF44
        refine go_iald X (md45.1.2.2 11 _ rfl).1 (by decide) hc47 d_Model_define_96 ?_
        refine go_top (v' := vi ((S 12 x1) + 1)) X (congrArg (fun q => vi q) ((md45.a (by decide) x1).trans (m_s_s))) ?_
        exact go_iret X d_Model_define_97 rfl rfl (by decide) (by decide) (ret_i hF48 hc41 md45)
      · skip
        have hF49 := if_t hF16 hq17
        refine go_aload_n X d_Model_define_41 rfl rfl ?_
        refine go_iconst (v := 2) X d_Model_define_42 ?_
        obtain ⟨v50, S51, hG52, hF53⟩ := bnd_t hF49
        refine go_cV (st2 := []) (r := []) X k_Model_128 (a_fail l D md8 (by decide) hG52) md8.1.1 rfl rfl (by decide) (Nat.le_of_ble_eq_true rfl) d_Model_define_43 (by decide) (by decide) (fun v' sh' M54 sz' hpp => ?_)
        obtain ⟨e1, e2, e3, hv56, md55⟩ := hpp
        subst e1
        rw [e2, e3]
        clear e2 e3
        show Go g 0 0 sh M54 sz 46 [(0, vr r), (1, vi x1), (2, vi x2), (3, vl x3)] [vi v50]
        exact go_iret X d_Model_define_46 rfl rfl (by decide) (by decide) (ret_i hF53 hv56 md55)
    · skip
      have hF57 := if_f hF12 (bnf hq13)
      refine go_lv (lv' := [(0, vr r)]) X [0] rfl ?_
      exact hJ24  (m_s S 0 0 0) M9  md8 hF57
def A_clear (N : Nat) (x1 : Int) (S : s_M) : rO := if (decide (0 ≤ x1 ∧ x1 ≤ 5)) = true then (chk (0 ≤ x1 ∧ x1 < 6) <| chk (0 ≤ x1 ∧ x1 < 6) <| some (S 12 x1, m_s (m_s S 0 0 0) 12 x1 0)) else (bnd (A_fail N 1 (m_s S 0 0 0)) fun v12 S13 => some (v12, S13))
theorem A_clear_e (N : Nat) (x1 : Int) (S : s_M) : A_clear N x1 S = (if (decide (0 ≤ x1 ∧ x1 ≤ 5)) = true then (chk (0 ≤ x1 ∧ x1 < 6) <| chk (0 ≤ x1 ∧ x1 < 6) <| some (S 12 x1, m_s (m_s S 0 0 0) 12 x1 0)) else (bnd (A_fail N 1 (m_s S 0 0 0)) fun v12 S13 => some (v12, S13))) := rfl
set_option maxHeartbeats 4000000 in
set_option maxRecDepth 100000 in
theorem a_clear (l : Launch) (D : va_G) {sh : s_S} {M0 M : s_M} {sz r x1 : Int} {N : Nat} {S S0 : s_M} {v0 : Int} (h : mq sh M0 M r S) (hx1 : rI x1) (hF : A_clear N x1 S = some (v0, S0)) : Sp l D y_Model_clear prog_14_method_48_code 3 (some .int) 2 0 0 [vr r, vi x1] sh M sz (fun v' sh' M' sz' => v' = some (vi v0) ∧ sh' = sh ∧ sz' = sz ∧ rI v0 ∧ mq sh M0 M' r S0) := by
  have hr0 := h.1.2.1
  refine Sp.ofGo (own := "CiteForgeModel") (nm := "clear") (by decide) rfl rfl (Nat.le_of_ble_eq_true rfl) (lv := [(0, vr r), (1, vi x1)]) rfl ?_
  intro g X
  rw [A_clear_e] at hF
  refine go_aload_n X d_Model_clear_0 rfl rfl ?_
  refine go_iconst (v := 0) X d_Model_clear_1 ?_
  refine go_put (x := 0) (v := vi 0) X f_Model_95 h.1.1 rfl d_Model_clear_2 rfl rfl rfl ?_
  have md1 : mq sh M0 (m_s M r 0 0) r (m_s S 0 0 0) := h.put0 (by decide) ((rg_S (by decide) (by decide) (by decide)))
  generalize m_s M r 0 0 = M2 at md1 ⊢
  refine go_iload_n X d_Model_clear_5 rfl rfl ?_
  refine go_iconst (v := 0) X d_Model_clear_6 ?_
  refine go_iconst (v := 5) X d_Model_clear_7 ?_
  refine go_cSf (st2 := [vi (s_b (decide (0 ≤ x1 ∧ x1 ≤ 5)))]) (r := []) X k_Model_103 (m_within l D hx1 (by decide) (by decide)) rfl rfl (by decide) (Nat.le_of_ble_eq_true rfl) d_Model_clear_8 (by decide) (by decide) rfl ?_
  refine go_ifb_ne (tgt := 20) X d_Model_clear_11 rfl (fun hq3 => ?_) (fun hq3 => ?_)
  · skip
    have hF4 := if_t hF hq3
    refine go_aload_n X d_Model_clear_20 rfl rfl ?_
    refine go_get (v := vr (r + 12)) X f_Model_44 md1.1.1 rfl d_Model_clear_21 (s_varr (md1.1.2.2 11 _ rfl).2 (by omega)) ?_
    refine go_iload_n X d_Model_clear_24 rfl rfl ?_
    obtain ⟨hc5, hF6⟩ := chk_t hF4
    refine go_iald X (md1.1.2.2 11 _ rfl).1 (by decide) hc5 d_Model_clear_25 ?_
    refine go_top (v' := vi (S 12 x1)) X (congrArg (fun q => vi q) ((md1.a (by decide) x1).trans ((m_sk (by decide)).trans (rfl)))) ?_
    refine go_istore_n (lv' := [(2, vi (S 12 x1)), (0, vr r), (1, vi x1)]) X d_Model_clear_26 rfl (by decide) rfl ?_
    refine go_aload_n X d_Model_clear_27 rfl rfl ?_
    refine go_get (v := vr (r + 12)) X f_Model_44 md1.1.1 rfl d_Model_clear_28 (s_varr (md1.1.2.2 11 _ rfl).2 (by omega)) ?_
    refine go_iload_n X d_Model_clear_31 rfl rfl ?_
    refine go_iconst (v := 0) X d_Model_clear_32 ?_
    obtain ⟨hc7, hF8⟩ := chk_t hF6
    refine go_iast (x := 0) X (md1.1.2.2 11 _ rfl).1 (by decide) hc7 d_Model_clear_33 ?_
    have md9 : mq sh M0 (m_s M2 (r + 12) x1 0) r (m_s (m_s S 0 0 0) 12 x1 0) := md1.put (by decide) ((rg_A (by decide) (by decide)))
    generalize m_s M2 (r + 12) x1 0 = M10 at md9 ⊢
    refine go_iload_n X d_Model_clear_34 rfl rfl ?_
    exact go_iret X d_Model_clear_35 rfl rfl (by decide) (by decide) (ret_i hF8 (rI_eq (md1.gA (by decide) x1) ((m_sk (by decide)).trans (rfl))) md9)
  · skip
    have hF11 := if_f hF (bnf hq3)
    refine go_aload_n X d_Model_clear_14 rfl rfl ?_
    refine go_iconst (v := 1) X d_Model_clear_15 ?_
    obtain ⟨v12, S13, hG14, hF15⟩ := bnd_t hF11
    refine go_cV (st2 := []) (r := []) X k_Model_128 (a_fail l D md1 (by decide) hG14) md1.1.1 rfl rfl (by decide) (Nat.le_of_ble_eq_true rfl) d_Model_clear_16 (by decide) (by decide) (fun v' sh' M16 sz' hpp => ?_)
    obtain ⟨e1, e2, e3, hv18, md17⟩ := hpp
    subst e1
    rw [e2, e3]
    clear e2 e3
    show Go g 0 0 sh M16 sz 19 [(0, vr r), (1, vi x1)] [vi v12]
    exact go_iret X d_Model_clear_19 rfl rfl (by decide) (by decide) (ret_i hF15 hv18 md17)
def A_number (N : Nat) (S : s_M) : rO := if (S 0 26) = 0 then (bnd (A_warn N 7 S) fun v22 S23 => some (0, S23)) else (chk (rI ((S 0 26) - 1)) <| chk (0 ≤ ((S 0 26) - 1) ∧ ((S 0 26) - 1) < 12) <| if (S 16 ((S 0 26) - 1)) = 0 then (chk (0 ≤ ((S 0 26) - 1) ∧ ((S 0 26) - 1) < 12) <| some (S 17 ((S 0 26) - 1), m_s S 0 26 ((S 0 26) - 1))) else (bnd (A_warn N 7 (m_s S 0 26 ((S 0 26) - 1))) fun v11 S12 => some (0, S12)))
theorem A_number_e (N : Nat) (S : s_M) : A_number N S = (if (S 0 26) = 0 then (bnd (A_warn N 7 S) fun v22 S23 => some (0, S23)) else (chk (rI ((S 0 26) - 1)) <| chk (0 ≤ ((S 0 26) - 1) ∧ ((S 0 26) - 1) < 12) <| if (S 16 ((S 0 26) - 1)) = 0 then (chk (0 ≤ ((S 0 26) - 1) ∧ ((S 0 26) - 1) < 12) <| some (S 17 ((S 0 26) - 1), m_s S 0 26 ((S 0 26) - 1))) else (bnd (A_warn N 7 (m_s S 0 26 ((S 0 26) - 1))) fun v11 S12 => some (0, S12)))) := rfl
set_option maxHeartbeats 4000000 in
set_option maxRecDepth 100000 in
theorem a_number (l : Launch) (D : va_G) {sh : s_S} {M0 M : s_M} {sz r  : Int} {N : Nat} {S S0 : s_M} {v0 : Int} (h : mq sh M0 M r S) (hF : A_number N S = some (v0, S0)) : Sp l D y_Model_number prog_14_method_53_code 1 (some .int) 2 0 0 [vr r] sh M sz (fun v' sh' M' sz' => v' = some (vi v0) ∧ sh' = sh ∧ sz' = sz ∧ rI v0 ∧ mq sh M0 M' r S0) := by
  have hr0 := h.1.2.1
  refine Sp.ofGo (own := "CiteForgeModel") (nm := "number") (by decide) rfl rfl (Nat.le_of_ble_eq_true rfl) (lv := [(0, vr r)]) rfl ?_
  intro g X
  rw [A_number_e] at hF
  refine go_aload_n X d_Model_number_0 rfl rfl ?_
  refine go_get (v := vi (S 0 26)) X f_Model_250 h.1.1 rfl d_Model_number_1 (congrArg (s_v .int) ((h.s 26).trans (rfl))) ?_
  refine go_if_ne (tgt := 15) X d_Model_number_4 rfl (h.gS 26 (by decide) (by decide)) (fun hq1 => ?_) (fun hq1 => ?_)
  · skip
    have hF2 := if_f hF hq1
    refine go_aload_n X d_Model_number_15 rfl rfl ?_
    refine go_dup X d_Model_number_16 rfl ?_
    refine go_get (v := vi (S 0 26)) X f_Model_250 h.1.1 rfl d_Model_number_17 (congrArg (s_v .int) ((h.s 26).trans (rfl))) ?_
    refine go_iconst (v := 1) X d_Model_number_20 ?_
    refine go_isub X d_Model_number_21 ?_
    obtain ⟨hc3, hF4⟩ := chk_t hF2
    refine go_put (x := ((S 0 26) - 1)) (v := vi ((S 0 26) - 1)) X f_Model_250 h.1.1 rfl d_Model_number_22 rfl rfl rfl ?_
    have md5 : mq sh M0 (m_s M r 26 ((S 0 26) - 1)) r (m_s S 0 26 ((S 0 26) - 1)) := h.put0 (by decide) ((rg_S (by decide) (by decide) hc3))
    generalize m_s M r 26 ((S 0 26) - 1) = M6 at md5 ⊢
    refine go_aload_n X d_Model_number_25 rfl rfl ?_
    refine go_get (v := vr (r + 16)) X f_Model_56 md5.1.1 rfl d_Model_number_26 (s_varr (md5.1.2.2 15 _ rfl).2 (by omega)) ?_
    refine go_aload_n X d_Model_number_29 rfl rfl ?_
    refine go_get (v := vi ((S 0 26) - 1)) X f_Model_250 md5.1.1 rfl d_Model_number_30 (congrArg (s_v .int) ((md5.s 26).trans (m_s_s))) ?_
    obtain ⟨hc7, hF8⟩ := chk_t hF4
    refine go_iald X (md5.1.2.2 15 _ rfl).1 (by decide) hc7 d_Model_number_33 ?_
    refine go_top (v' := vi (S 16 ((S 0 26) - 1))) X (congrArg (fun q => vi q) ((md5.a (by decide) ((S 0 26) - 1)).trans ((m_sk (by decide)).trans (rfl)))) ?_
    refine go_if_ne (tgt := 47) X d_Model_number_34 rfl (rI_eq (md5.gA (by decide) ((S 0 26) - 1)) ((m_sk (by decide)).trans (rfl))) (fun hq9 => ?_) (fun hq9 => ?_)
    · skip
      have hF10 := if_f hF8 hq9
      refine go_aload_n X d_Model_number_47 rfl rfl ?_
      refine go_bipush (v := 7) X d_Model_number_48 (by decide) ?_
      obtain ⟨v11, S12, hG13, hF14⟩ := bnd_t hF10
      refine go_cV (st2 := []) (r := []) X k_Model_144 (a_warn l D md5 (by decide) hG13) md5.1.1 rfl rfl (by decide) (Nat.le_of_ble_eq_true rfl) d_Model_number_50 (by decide) (by decide) (fun v' sh' M15 sz' hpp => ?_)
      obtain ⟨e1, e2, e3, md16⟩ := hpp
      subst e1
      rw [e2, e3]
      clear e2 e3
      show Go g 0 0 sh M15 sz 53 [(0, vr r)] []
      refine go_iconst (v := 0) X d_Model_number_53 ?_
      exact go_iret X d_Model_number_54 rfl rfl (by decide) (by decide) (ret_i hF14 (by decide) md16)
    · skip
      have hF18 := if_t hF8 hq9
      refine go_aload_n X d_Model_number_37 rfl rfl ?_
      refine go_get (v := vr (r + 17)) X f_Model_59 md5.1.1 rfl d_Model_number_38 (s_varr (md5.1.2.2 16 _ rfl).2 (by omega)) ?_
      refine go_aload_n X d_Model_number_41 rfl rfl ?_
      refine go_get (v := vi ((S 0 26) - 1)) X f_Model_250 md5.1.1 rfl d_Model_number_42 (congrArg (s_v .int) ((md5.s 26).trans (m_s_s))) ?_
      obtain ⟨hc19, hF20⟩ := chk_t hF18
      refine go_iald X (md5.1.2.2 16 _ rfl).1 (by decide) hc19 d_Model_number_45 ?_
      refine go_top (v' := vi (S 17 ((S 0 26) - 1))) X (congrArg (fun q => vi q) ((md5.a (by decide) ((S 0 26) - 1)).trans ((m_sk (by decide)).trans (rfl)))) ?_
      exact go_iret X d_Model_number_46 rfl rfl (by decide) (by decide) (ret_i hF20 (rI_eq (md5.gA (by decide) ((S 0 26) - 1)) ((m_sk (by decide)).trans (rfl))) md5)
  · skip
    have hF21 := if_t hF hq1
    refine go_aload_n X d_Model_number_7 rfl rfl ?_
    refine go_bipush (v := 7) X d_Model_number_8 (by decide) ?_
    obtain ⟨v22, S23, hG24, hF25⟩ := bnd_t hF21
    refine go_cV (st2 := []) (r := []) X k_Model_144 (a_warn l D h (by decide) hG24) h.1.1 rfl rfl (by decide) (Nat.le_of_ble_eq_true rfl) d_Model_number_10 (by decide) (by decide) (fun v' sh' M26 sz' hpp => ?_)
    obtain ⟨e1, e2, e3, md27⟩ := hpp
    subst e1
    rw [e2, e3]
    clear e2 e3
    show Go g 0 0 sh M26 sz 13 [(0, vr r)] []
    refine go_iconst (v := 0) X d_Model_number_13 ?_
    exact go_iret X d_Model_number_14 rfl rfl (by decide) (by decide) (ret_i hF25 (by decide) md27)
def A_push (N : Nat) (x1 x2 x3 : Int) (S : s_M) : rO := if (S 0 29) = 8 then (some (0, m_s S 0 32 1)) else (chk (0 ≤ (S 0 29) ∧ (S 0 29) < 8) <| chk (0 ≤ (S 0 29) ∧ (S 0 29) < 8) <| chk (0 ≤ (S 0 29) ∧ (S 0 29) < 8) <| chk (0 ≤ (S 0 29) ∧ (S 0 29) < 8) <| chk (rI ((S 0 29) + 1)) <| some (0, m_s (m_s (m_s (m_s (m_s S 18 (S 0 29) x1) 19 (S 0 29) 0) 20 (S 0 29) x2) 21 (S 0 29) x3) 0 29 ((S 0 29) + 1)))
theorem A_push_e (N : Nat) (x1 x2 x3 : Int) (S : s_M) : A_push N x1 x2 x3 S = (if (S 0 29) = 8 then (some (0, m_s S 0 32 1)) else (chk (0 ≤ (S 0 29) ∧ (S 0 29) < 8) <| chk (0 ≤ (S 0 29) ∧ (S 0 29) < 8) <| chk (0 ≤ (S 0 29) ∧ (S 0 29) < 8) <| chk (0 ≤ (S 0 29) ∧ (S 0 29) < 8) <| chk (rI ((S 0 29) + 1)) <| some (0, m_s (m_s (m_s (m_s (m_s S 18 (S 0 29) x1) 19 (S 0 29) 0) 20 (S 0 29) x2) 21 (S 0 29) x3) 0 29 ((S 0 29) + 1)))) := rfl
set_option maxHeartbeats 4000000 in
set_option maxRecDepth 100000 in
theorem a_push (l : Launch) (D : va_G) {sh : s_S} {M0 M : s_M} {sz r x1 x2 x3 : Int} {N : Nat} {S S0 : s_M} {v0 : Int} (h : mq sh M0 M r S) (hx1 : rI x1) (hx2 : rI x2) (hx3 : rL x3) (hF : A_push N x1 x2 x3 S = some (v0, S0)) : Sp l D y_Model_push prog_14_method_83_code 5 none 1 0 0 [vr r, vi x1, vi x2, vl x3] sh M sz (fun v' sh' M' sz' => v' = none ∧ sh' = sh ∧ sz' = sz ∧ mq sh M0 M' r S0) := by
  have hr0 := h.1.2.1
  refine Sp.ofGo (own := "CiteForgeModel") (nm := "push") (by decide) rfl rfl (Nat.le_of_ble_eq_true rfl) (lv := [(0, vr r), (1, vi x1), (2, vi x2), (3, vl x3)]) rfl ?_
  intro g X
  rw [A_push_e] at hF
  refine go_aload_n X d_Model_push_0 rfl rfl ?_
  refine go_get (v := vi (S 0 29)) X f_Model_383 h.1.1 rfl d_Model_push_1 (congrArg (s_v .int) ((h.s 29).trans (rfl))) ?_
  refine go_bipush (v := 8) X d_Model_push_4 (by decide) ?_
  refine go_icmp_ne (tgt := 15) X d_Model_push_6 rfl (h.gS 29 (by decide) (by decide)) (by decide) (fun hq1 => ?_) (fun hq1 => ?_)
  · skip
    have hF2 := if_f hF hq1
    refine go_aload_n X d_Model_push_15 rfl rfl ?_
    refine go_get (v := vr (r + 18)) X f_Model_62 h.1.1 rfl d_Model_push_16 (s_varr (h.1.2.2 17 _ rfl).2 (by omega)) ?_
    refine go_aload_n X d_Model_push_19 rfl rfl ?_
    refine go_get (v := vi (S 0 29)) X f_Model_383 h.1.1 rfl d_Model_push_20 (congrArg (s_v .int) ((h.s 29).trans (rfl))) ?_
    refine go_iload_n X d_Model_push_23 rfl rfl ?_
    obtain ⟨hc3, hF4⟩ := chk_t hF2
    refine go_iast (x := x1) X (h.1.2.2 17 _ rfl).1 (by decide) hc3 d_Model_push_24 ?_
    have md5 : mq sh M0 (m_s M (r + 18) (S 0 29) x1) r (m_s S 18 (S 0 29) x1) := h.put (by decide) ((rg_A (by decide) hx1))
    generalize m_s M (r + 18) (S 0 29) x1 = M6 at md5 ⊢
    refine go_aload_n X d_Model_push_25 rfl rfl ?_
    refine go_get (v := vr (r + 19)) X f_Model_65 md5.1.1 rfl d_Model_push_26 (s_varr (md5.1.2.2 18 _ rfl).2 (by omega)) ?_
    refine go_aload_n X d_Model_push_29 rfl rfl ?_
    refine go_get (v := vi (S 0 29)) X f_Model_383 md5.1.1 rfl d_Model_push_30 (congrArg (s_v .int) ((md5.s 29).trans ((m_sk (by decide)).trans (rfl)))) ?_
    refine go_iconst (v := 0) X d_Model_push_33 ?_
    obtain ⟨hc7, hF8⟩ := chk_t hF4
    refine go_iast (x := 0) X (md5.1.2.2 18 _ rfl).1 (by decide) hc7 d_Model_push_34 ?_
    have md9 : mq sh M0 (m_s M6 (r + 19) (S 0 29) 0) r (m_s (m_s S 18 (S 0 29) x1) 19 (S 0 29) 0) := md5.put (by decide) ((rg_A (by decide) (by decide)))
    generalize m_s M6 (r + 19) (S 0 29) 0 = M10 at md9 ⊢
    refine go_aload_n X d_Model_push_35 rfl rfl ?_
    refine go_get (v := vr (r + 20)) X f_Model_68 md9.1.1 rfl d_Model_push_36 (s_varr (md9.1.2.2 19 _ rfl).2 (by omega)) ?_
    refine go_aload_n X d_Model_push_39 rfl rfl ?_
    refine go_get (v := vi (S 0 29)) X f_Model_383 md9.1.1 rfl d_Model_push_40 (congrArg (s_v .int) ((md9.s 29).trans ((m_sk (by decide)).trans ((m_sk (by decide)).trans (rfl))))) ?_
    refine go_iload_n X d_Model_push_43 rfl rfl ?_
    obtain ⟨hc11, hF12⟩ := chk_t hF8
    refine go_iast (x := x2) X (md9.1.2.2 19 _ rfl).1 (by decide) hc11 d_Model_push_44 ?_
    have md13 : mq sh M0 (m_s M10 (r + 20) (S 0 29) x2) r (m_s (m_s (m_s S 18 (S 0 29) x1) 19 (S 0 29) 0) 20 (S 0 29) x2) := md9.put (by decide) ((rg_A (by decide) hx2))
    generalize m_s M10 (r + 20) (S 0 29) x2 = M14 at md13 ⊢
    refine go_aload_n X d_Model_push_45 rfl rfl ?_
    refine go_get (v := vr (r + 21)) X f_Model_71 md13.1.1 rfl d_Model_push_46 (s_varr (md13.1.2.2 20 _ rfl).2 (by omega)) ?_
    refine go_aload_n X d_Model_push_49 rfl rfl ?_
    refine go_get (v := vi (S 0 29)) X f_Model_383 md13.1.1 rfl d_Model_push_50 (congrArg (s_v .int) ((md13.s 29).trans ((m_sk (by decide)).trans ((m_sk (by decide)).trans ((m_sk (by decide)).trans (rfl)))))) ?_
    refine go_lload_n X d_Model_push_53 rfl rfl ?_
    obtain ⟨hc15, hF16⟩ := chk_t hF12
    refine go_last (x := x3) X (md13.1.2.2 20 _ rfl).1 (by decide) hc15 d_Model_push_54 ?_
    have md17 : mq sh M0 (m_s M14 (r + 21) (S 0 29) x3) r (m_s (m_s (m_s (m_s S 18 (S 0 29) x1) 19 (S 0 29) 0) 20 (S 0 29) x2) 21 (S 0 29) x3) := md13.put (by decide) ((rg_L (by decide) hx3))
    generalize m_s M14 (r + 21) (S 0 29) x3 = M18 at md17 ⊢
    refine go_aload_n X d_Model_push_55 rfl rfl ?_
    refine go_dup X d_Model_push_56 rfl ?_
    refine go_get (v := vi (S 0 29)) X f_Model_383 md17.1.1 rfl d_Model_push_57 (congrArg (s_v .int) ((md17.s 29).trans ((m_sk (by decide)).trans ((m_sk (by decide)).trans ((m_sk (by decide)).trans ((m_sk (by decide)).trans (rfl))))))) ?_
    refine go_iconst (v := 1) X d_Model_push_60 ?_
    refine go_iadd X d_Model_push_61 ?_
    obtain ⟨hc19, hF20⟩ := chk_t hF16
    refine go_put (x := ((S 0 29) + 1)) (v := vi ((S 0 29) + 1)) X f_Model_383 md17.1.1 rfl d_Model_push_62 rfl rfl rfl ?_
    have md21 : mq sh M0 (m_s M18 r 29 ((S 0 29) + 1)) r (m_s (m_s (m_s (m_s (m_s S 18 (S 0 29) x1) 19 (S 0 29) 0) 20 (S 0 29) x2) 21 (S 0 29) x3) 0 29 ((S 0 29) + 1)) := md17.put0 (by decide) ((rg_S (by decide) (by decide) hc19))
    generalize m_s M18 r 29 ((S 0 29) + 1) = M22 at md21 ⊢
    exact go_vret X d_Model_push_65 rfl (by decide) (by decide) (ret_v hF20 md21)
  · skip
    have hF23 := if_t hF hq1
    refine go_aload_n X d_Model_push_9 rfl rfl ?_
    refine go_iconst (v := 1) X d_Model_push_10 ?_
    refine go_put (x := 1) (v := vi 1) X f_Model_386 h.1.1 rfl d_Model_push_11 rfl (n_nz (by decide)) (n_fz (by decide)) ?_
    have md24 : mq sh M0 (m_s M r 32 1) r (m_s S 0 32 1) := h.put0 (by decide) ((rg_B (by decide) (by decide) (by decide)))
    generalize m_s M r 32 1 = M25 at md24 ⊢
    exact go_vret X d_Model_push_14 rfl (by decide) (by decide) (ret_v hF23 md24)
def A_ended_j84 (N : Nat) (S : s_M) : rO := some (0, S)
theorem A_ended_j84_e (N : Nat) (S : s_M) : A_ended_j84 N S = (some (0, S)) := rfl
def A_ended_j55 (N : Nat) (x1 : Int) (S : s_M) : rO := chk (0 ≤ (S 0 29) ∧ (S 0 29) < 8) <| if (S 20 (S 0 29)) = 2 then (bnd (A_push N (wi32 (l_mod (l_quo x1 6) 6)) 1 x1 S) fun v6 S7 => A_ended_j84 N  S7) else (A_ended_j84 N  S)
theorem A_ended_j55_e (N : Nat) (x1 : Int) (S : s_M) : A_ended_j55 N x1 S = (chk (0 ≤ (S 0 29) ∧ (S 0 29) < 8) <| if (S 20 (S 0 29)) = 2 then (bnd (A_push N (wi32 (l_mod (l_quo x1 6) 6)) 1 x1 S) fun v6 S7 => A_ended_j84 N  S7) else (A_ended_j84 N  S)) := rfl
def A_ended (N : Nat) (S : s_M) : rO := chk (rI ((S 0 29) - 1)) <| chk (0 ≤ ((S 0 29) - 1) ∧ ((S 0 29) - 1) < 8) <| chk (0 ≤ ((S 0 29) - 1) ∧ ((S 0 29) - 1) < 8) <| if (S 20 ((S 0 29) - 1)) = 1 then (bnd (A_number N (m_s S 0 29 ((S 0 29) - 1))) fun v24 S25 => if 0 < v24 then (bnd (A_push N (wi32 (l_mod (S 21 ((S 0 29) - 1)) 6)) 2 (S 21 ((S 0 29) - 1)) S25) fun v34 S35 => A_ended_j84 N  S35) else (A_ended_j55 N (S 21 ((S 0 29) - 1)) S25)) else (A_ended_j55 N (S 21 ((S 0 29) - 1)) (m_s S 0 29 ((S 0 29) - 1)))
theorem A_ended_e (N : Nat) (S : s_M) : A_ended N S = (chk (rI ((S 0 29) - 1)) <| chk (0 ≤ ((S 0 29) - 1) ∧ ((S 0 29) - 1) < 8) <| chk (0 ≤ ((S 0 29) - 1) ∧ ((S 0 29) - 1) < 8) <| if (S 20 ((S 0 29) - 1)) = 1 then (bnd (A_number N (m_s S 0 29 ((S 0 29) - 1))) fun v24 S25 => if 0 < v24 then (bnd (A_push N (wi32 (l_mod (S 21 ((S 0 29) - 1)) 6)) 2 (S 21 ((S 0 29) - 1)) S25) fun v34 S35 => A_ended_j84 N  S35) else (A_ended_j55 N (S 21 ((S 0 29) - 1)) S25)) else (A_ended_j55 N (S 21 ((S 0 29) - 1)) (m_s S 0 29 ((S 0 29) - 1)))) := rfl
set_option maxHeartbeats 4000000 in
set_option maxRecDepth 100000 in
theorem a_ended (l : Launch) (D : va_G) {sh : s_S} {M0 M : s_M} {sz r  : Int} {N : Nat} {S S0 : s_M} {v0 : Int} (h : mq sh M0 M r S) (hF : A_ended N S = some (v0, S0)) : Sp l D y_Model_ended prog_14_method_85_code 3 none 3 0 0 [vr r] sh M sz (fun v' sh' M' sz' => v' = none ∧ sh' = sh ∧ sz' = sz ∧ mq sh M0 M' r S0) := by
  have hr0 := h.1.2.1
  refine Sp.ofGo (own := "CiteForgeModel") (nm := "ended") (by decide) rfl rfl (Nat.le_of_ble_eq_true rfl) (lv := [(0, vr r)]) rfl ?_
  intro g X
  have hJ84 : ∀ (S1 M1 : s_M), mq sh M0 M1 r S1 → A_ended_j84 N S1 = some (v0, S0) → Go g 0 0 sh M1 sz 84 [(0, vr r)] [] := by
    intro S1 M1 hm hF
    rw [A_ended_j84_e] at hF
    exact go_vret X d_Model_ended_84 rfl (by decide) (by decide) (ret_v hF hm)
  have hJ55 : ∀ (x1 : Int) (S1 M1 : s_M), rL x1 → mq sh M0 M1 r S1 → A_ended_j55 N x1 S1 = some (v0, S0) → Go g 0 0 sh M1 sz 55 [(0, vr r), (1, vl x1)] [] := by
    intro x1 S1 M1 hx1 hm hF
    rw [A_ended_j55_e] at hF
    refine go_aload_n X d_Model_ended_55 rfl rfl ?_
    refine go_get (v := vr (r + 20)) X f_Model_68 hm.1.1 rfl d_Model_ended_56 (s_varr (hm.1.2.2 19 _ rfl).2 (by omega)) ?_
    refine go_aload_n X d_Model_ended_59 rfl rfl ?_
    refine go_get (v := vi (S1 0 29)) X f_Model_383 hm.1.1 rfl d_Model_ended_60 (congrArg (s_v .int) ((hm.s 29).trans (rfl))) ?_
    obtain ⟨hc1, hF2⟩ := chk_t hF
    refine go_iald X (hm.1.2.2 19 _ rfl).1 (by decide) hc1 d_Model_ended_63 ?_
    refine go_top (v' := vi (S1 20 (S1 0 29))) X (congrArg (fun q => vi q) ((hm.a (by decide) (S1 0 29)).trans (rfl))) ?_
    refine go_iconst (v := 2) X d_Model_ended_64 ?_
    refine go_icmp_ne (tgt := 84) X d_Model_ended_65 rfl (hm.gA (by decide) (S1 0 29)) (by decide) (fun hq3 => ?_) (fun hq3 => ?_)
    · skip
      have hF4 := if_f hF2 hq3
      refine go_lv (lv' := [(0, vr r)]) X [0] rfl ?_
      exact hJ84  S1 M1  hm hF4
    · skip
      have hF5 := if_t hF2 hq3
      refine go_aload_n X d_Model_ended_68 rfl rfl ?_
      refine go_lload_n X d_Model_ended_69 rfl rfl ?_
      refine go_ldc2 (x := 6) X w_kl_Model_392 (by decide) d_Model_ended_70 ?_
      refine go_ldiv (z := l_quo x1 6) X d_Model_ended_73 (by decide) (Int64.ofInt_toInt _).symm ?_
      refine go_ldc2 (x := 6) X w_kl_Model_392 (by decide) d_Model_ended_74 ?_
      refine go_lrem (z := l_mod (l_quo x1 6) 6) X d_Model_ended_77 (by decide) (Int64.ofInt_toInt _).symm ?_
      refine go_l2i X d_Model_ended_78 ?_
      refine go_top (v' := vi (wi32 (l_mod (l_quo x1 6) 6))) X (wi32_vi _) ?_
      refine go_iconst (v := 1) X d_Model_ended_79 ?_
      refine go_lload_n X d_Model_ended_80 rfl rfl ?_
      obtain ⟨v6, S7, hG8, hF9⟩ := bnd_t hF5
      refine go_cV (st2 := []) (r := []) X k_Model_394 (a_push l D hm (wi32_rng _) (by decide) hx1 hG8) hm.1.1 rfl rfl (by decide) (Nat.le_of_ble_eq_true rfl) d_Model_ended_81 (by decide) (by decide) (fun v' sh' M10 sz' hpp => ?_)
      obtain ⟨e1, e2, e3, md11⟩ := hpp
      subst e1
      rw [e2, e3]
      clear e2 e3
      show Go g 0 0 sh M10 sz 84 [(0, vr r), (1, vl x1)] []
      refine go_lv (lv' := [(0, vr r)]) X [0] rfl ?_
      exact hJ84  S7 M10  md11 hF9
  rw [A_ended_e] at hF
  refine go_aload_n X d_Model_ended_0 rfl rfl ?_
  refine go_dup X d_Model_ended_1 rfl ?_
  refine go_get (v := vi (S 0 29)) X f_Model_383 h.1.1 rfl d_Model_ended_2 (congrArg (s_v .int) ((h.s 29).trans (rfl))) ?_
  refine go_iconst (v := 1) X d_Model_ended_5 ?_
  refine go_isub X d_Model_ended_6 ?_
  obtain ⟨hc13, hF14⟩ := chk_t hF
  refine go_put (x := ((S 0 29) - 1)) (v := vi ((S 0 29) - 1)) X f_Model_383 h.1.1 rfl d_Model_ended_7 rfl rfl rfl ?_
  have md15 : mq sh M0 (m_s M r 29 ((S 0 29) - 1)) r (m_s S 0 29 ((S 0 29) - 1)) := h.put0 (by decide) ((rg_S (by decide) (by decide) hc13))
  generalize m_s M r 29 ((S 0 29) - 1) = M16 at md15 ⊢
  refine go_aload_n X d_Model_ended_10 rfl rfl ?_
  refine go_get (v := vr (r + 21)) X f_Model_71 md15.1.1 rfl d_Model_ended_11 (s_varr (md15.1.2.2 20 _ rfl).2 (by omega)) ?_
  refine go_aload_n X d_Model_ended_14 rfl rfl ?_
  refine go_get (v := vi ((S 0 29) - 1)) X f_Model_383 md15.1.1 rfl d_Model_ended_15 (congrArg (s_v .int) ((md15.s 29).trans (m_s_s))) ?_
  obtain ⟨hc17, hF18⟩ := chk_t hF14
  refine go_lald X (md15.1.2.2 20 _ rfl).1 (by decide) hc17 d_Model_ended_18 ?_
  refine go_top (v' := vl (S 21 ((S 0 29) - 1))) X (congrArg (fun q => vl q) ((md15.a (by decide) ((S 0 29) - 1)).trans ((m_sk (by decide)).trans (rfl)))) ?_
  refine go_lstore_n (lv' := [(1, vl (S 21 ((S 0 29) - 1))), (0, vr r)]) X d_Model_ended_19 rfl (by decide) rfl ?_
  refine go_aload_n X d_Model_ended_20 rfl rfl ?_
  refine go_get (v := vr (r + 20)) X f_Model_68 md15.1.1 rfl d_Model_ended_21 (s_varr (md15.1.2.2 19 _ rfl).2 (by omega)) ?_
  refine go_aload_n X d_Model_ended_24 rfl rfl ?_
  refine go_get (v := vi ((S 0 29) - 1)) X f_Model_383 md15.1.1 rfl d_Model_ended_25 (congrArg (s_v .int) ((md15.s 29).trans (m_s_s))) ?_
  obtain ⟨hc19, hF20⟩ := chk_t hF18
  refine go_iald X (md15.1.2.2 19 _ rfl).1 (by decide) hc19 d_Model_ended_28 ?_
  refine go_top (v' := vi (S 20 ((S 0 29) - 1))) X (congrArg (fun q => vi q) ((md15.a (by decide) ((S 0 29) - 1)).trans ((m_sk (by decide)).trans (rfl)))) ?_
  refine go_iconst (v := 1) X d_Model_ended_29 ?_
  refine go_icmp_ne (tgt := 55) X d_Model_ended_30 rfl (rI_eq (md15.gA (by decide) ((S 0 29) - 1)) ((m_sk (by decide)).trans (rfl))) (by decide) (fun hq21 => ?_) (fun hq21 => ?_)
  · skip
    have hF22 := if_f hF20 hq21
    refine go_lv (lv' := [(0, vr r), (1, vl (S 21 ((S 0 29) - 1)))]) X [1, 0] rfl ?_
    exact hJ55 (S 21 ((S 0 29) - 1)) (m_s S 0 29 ((S 0 29) - 1)) M16 (rL_eq (md15.gL (by decide) ((S 0 29) - 1)) ((m_sk (by decide)).trans (rfl))) md15 hF22
  · skip
    have hF23 := if_t hF20 hq21
    refine go_aload_n X d_Model_ended_33 rfl rfl ?_
    obtain ⟨v24, S25, hG26, hF27⟩ := bnd_t hF23
    refine go_cV (st2 := []) (r := []) X k_Model_292 (a_number l D md15 hG26) md15.1.1 rfl rfl (by decide) (Nat.le_of_ble_eq_true rfl) d_Model_ended_34 (by decide) (by decide) (fun v' sh' M28 sz' hpp => ?_)
    obtain ⟨e1, e2, e3, hv30, md29⟩ := hpp
    subst e1
    rw [e2, e3]
    clear e2 e3
    show Go g 0 0 sh M28 sz 37 [(1, vl (S 21 ((S 0 29) - 1))), (0, vr r)] [vi v24]
    refine go_if_le (tgt := 55) X d_Model_ended_37 rfl hv30 (fun hq31 => ?_) (fun hq31 => ?_)
    · skip
      have hF32 := if_f hF27 (Int.not_lt.mpr hq31)
      refine go_lv (lv' := [(0, vr r), (1, vl (S 21 ((S 0 29) - 1)))]) X [1, 0] rfl ?_
      exact hJ55 (S 21 ((S 0 29) - 1)) S25 M28 (rL_eq (md15.gL (by decide) ((S 0 29) - 1)) ((m_sk (by decide)).trans (rfl))) md29 hF32
    · skip
      have hF33 := if_t hF27 hq31
      refine go_aload_n X d_Model_ended_40 rfl rfl ?_
      refine go_lload_n X d_Model_ended_41 rfl rfl ?_
      refine go_ldc2 (x := 6) X w_kl_Model_392 (by decide) d_Model_ended_42 ?_
      refine go_lrem (z := l_mod (S 21 ((S 0 29) - 1)) 6) X d_Model_ended_45 (by decide) (Int64.ofInt_toInt _).symm ?_
      refine go_l2i X d_Model_ended_46 ?_
      refine go_top (v' := vi (wi32 (l_mod (S 21 ((S 0 29) - 1)) 6))) X (wi32_vi _) ?_
      refine go_iconst (v := 2) X d_Model_ended_47 ?_
      refine go_lload_n X d_Model_ended_48 rfl rfl ?_
      obtain ⟨v34, S35, hG36, hF37⟩ := bnd_t hF33
      refine go_cV (st2 := []) (r := []) X k_Model_394 (a_push l D md29 (wi32_rng _) (by decide) (rL_eq (md15.gL (by decide) ((S 0 29) - 1)) ((m_sk (by decide)).trans (rfl))) hG36) md29.1.1 rfl rfl (by decide) (Nat.le_of_ble_eq_true rfl) d_Model_ended_49 (by decide) (by decide) (fun v' sh' M38 sz' hpp => ?_)
      obtain ⟨e1, e2, e3, md39⟩ := hpp
      subst e1
      rw [e2, e3]
      clear e2 e3
      show Go g 0 0 sh M38 sz 52 [(1, vl (S 21 ((S 0 29) - 1))), (0, vr r)] []
      refine go_goto (tgt := 84) X d_Model_ended_52 rfl ?_
      refine go_lv (lv' := [(0, vr r)]) X [1] rfl ?_
      exact hJ84  S35 M38  md39 hF37
def A_ends_j53 (N : Nat) (S : s_M) : rO := chk (rI ((S 0 44) + 1)) <| some (0, m_s (m_s S 0 44 ((S 0 44) + 1)) 0 45 0)
theorem A_ends_j53_e (N : Nat) (S : s_M) : A_ends_j53 N S = (chk (rI ((S 0 44) + 1)) <| some (0, m_s (m_s S 0 44 ((S 0 44) + 1)) 0 45 0)) := rfl
def A_ends_l21 (N : Nat) : Nat → Int → Int → s_M → rO
  | 0, _, _, _ => none
  | n + 1, x1, x2, S => if x2 < x1 then (chk (rI (180 * (S 0 44))) <| chk (rI ((180 * (S 0 44)) + x2)) <| chk (0 ≤ x2 ∧ x2 < 184) <| chk (0 ≤ ((180 * (S 0 44)) + x2) ∧ ((180 * (S 0 44)) + x2) < 4320) <| chk (rI (x2 + 1)) <| (A_ends_l21 N n) x1 (x2 + 1) (m_s S 28 ((180 * (S 0 44)) + x2) (S 26 x2))) else (A_ends_j53 N  S)
theorem A_ends_l21_e (N : Nat) (n : Nat) (x1 x2 : Int) (S : s_M) : A_ends_l21 N (n + 1) x1 x2 S = (if x2 < x1 then (chk (rI (180 * (S 0 44))) <| chk (rI ((180 * (S 0 44)) + x2)) <| chk (0 ≤ x2 ∧ x2 < 184) <| chk (0 ≤ ((180 * (S 0 44)) + x2) ∧ ((180 * (S 0 44)) + x2) < 4320) <| chk (rI (x2 + 1)) <| (A_ends_l21 N n) x1 (x2 + 1) (m_s S 28 ((180 * (S 0 44)) + x2) (S 26 x2))) else (A_ends_j53 N  S)) := rfl
def A_ends (N : Nat) (x1 : Int) (S : s_M) : rO := if (S 0 44) < 24 then (chk (0 ≤ (S 0 44) ∧ (S 0 44) < 24) <| A_ends_l21 N N x1 0 (m_s S 27 (S 0 44) x1)) else (A_ends_j53 N  S)
theorem A_ends_e (N : Nat) (x1 : Int) (S : s_M) : A_ends N x1 S = (if (S 0 44) < 24 then (chk (0 ≤ (S 0 44) ∧ (S 0 44) < 24) <| A_ends_l21 N N x1 0 (m_s S 27 (S 0 44) x1)) else (A_ends_j53 N  S)) := rfl
set_option maxHeartbeats 4000000 in
set_option maxRecDepth 100000 in
theorem a_ends (l : Launch) (D : va_G) {sh : s_S} {M0 M : s_M} {sz r x1 : Int} {N : Nat} {S S0 : s_M} {v0 : Int} (h : mq sh M0 M r S) (hx1 : rI x1) (hF : A_ends N x1 S = some (v0, S0)) : Sp l D y_Model_ends prog_14_method_80_code 3 none 1 0 0 [vr r, vi x1] sh M sz (fun v' sh' M' sz' => v' = none ∧ sh' = sh ∧ sz' = sz ∧ mq sh M0 M' r S0) := by
  have hr0 := h.1.2.1
  refine Sp.ofGo (own := "CiteForgeModel") (nm := "ends") (by decide) rfl rfl (Nat.le_of_ble_eq_true rfl) (lv := [(0, vr r), (1, vi x1)]) rfl ?_
  intro g X
  have hJ53 : ∀ (S1 M1 : s_M), mq sh M0 M1 r S1 → A_ends_j53 N S1 = some (v0, S0) → Go g 0 0 sh M1 sz 53 [(0, vr r)] [] := by
    intro S1 M1 hm hF
    rw [A_ends_j53_e] at hF
    refine go_aload_n X d_Model_ends_53 rfl rfl ?_
    refine go_dup X d_Model_ends_54 rfl ?_
    refine go_get (v := vi (S1 0 44)) X f_Model_377 hm.1.1 rfl d_Model_ends_55 (congrArg (s_v .int) ((hm.s 44).trans (rfl))) ?_
    refine go_iconst (v := 1) X d_Model_ends_58 ?_
    refine go_iadd X d_Model_ends_59 ?_
    obtain ⟨hc1, hF2⟩ := chk_t hF
    refine go_put (x := ((S1 0 44) + 1)) (v := vi ((S1 0 44) + 1)) X f_Model_377 hm.1.1 rfl d_Model_ends_60 rfl rfl rfl ?_
    have md3 : mq sh M0 (m_s M1 r 44 ((S1 0 44) + 1)) r (m_s S1 0 44 ((S1 0 44) + 1)) := hm.put0 (by decide) ((rg_S (by decide) (by decide) hc1))
    generalize m_s M1 r 44 ((S1 0 44) + 1) = M4 at md3 ⊢
    refine go_aload_n X d_Model_ends_63 rfl rfl ?_
    refine go_iconst (v := 0) X d_Model_ends_64 ?_
    refine go_put (x := 0) (v := vi 0) X f_Model_316 md3.1.1 rfl d_Model_ends_65 rfl rfl rfl ?_
    have md5 : mq sh M0 (m_s M4 r 45 0) r (m_s (m_s S1 0 44 ((S1 0 44) + 1)) 0 45 0) := md3.put0 (by decide) ((rg_S (by decide) (by decide) (by decide)))
    generalize m_s M4 r 45 0 = M6 at md5 ⊢
    exact go_vret X d_Model_ends_68 rfl (by decide) (by decide) (ret_v hF2 md5)
  have hL21 : ∀ (n21 : Nat) (x1 x2 : Int) (S1 M1 : s_M), rI x1 → rI x2 → mq sh M0 M1 r S1 → A_ends_l21 N n21 x1 x2 S1 = some (v0, S0) → Go g 0 0 sh M1 sz 21 [(0, vr r), (1, vi x1), (2, vi x2)] [] := by
    intro n21
    induction n21 with
    | zero => intro x1 x2 S1 M1 hx1 hx2 hm hF; cases hF
    | succ n21 ih21 =>
      intro x1 x2 S1 M1 hx1 hx2 hm hF
      rw [A_ends_l21_e] at hF
      refine go_iload_n X d_Model_ends_21 rfl rfl ?_
      refine go_iload_n X d_Model_ends_22 rfl rfl ?_
      refine go_icmp_ge (tgt := 53) X d_Model_ends_23 rfl hx2 hx1 (fun hq7 => ?_) (fun hq7 => ?_)
      · skip
        have hF8 := if_f hF (Int.not_lt.mpr hq7)
        refine go_lv (lv' := [(0, vr r)]) X [0] rfl ?_
        exact hJ53  S1 M1  hm hF8
      · skip
        have hF9 := if_t hF hq7
        refine go_aload_n X d_Model_ends_26 rfl rfl ?_
        refine go_get (v := vr (r + 28)) X f_Model_92 hm.1.1 rfl d_Model_ends_27 (s_varr (hm.1.2.2 27 _ rfl).2 (by omega)) ?_
        refine go_sipush (v := 180) X d_Model_ends_30 (by decide) ?_
        refine go_aload_n X d_Model_ends_33 rfl rfl ?_
        refine go_get (v := vi (S1 0 44)) X f_Model_377 hm.1.1 rfl d_Model_ends_34 (congrArg (s_v .int) ((hm.s 44).trans (rfl))) ?_
        refine go_imul X d_Model_ends_37 ?_
        obtain ⟨hc10, hF11⟩ := chk_t hF9
        refine go_iload_n X d_Model_ends_38 rfl rfl ?_
        refine go_iadd X d_Model_ends_39 ?_
        obtain ⟨hc12, hF13⟩ := chk_t hF11
        refine go_aload_n X d_Model_ends_40 rfl rfl ?_
        refine go_get (v := vr (r + 26)) X f_Model_86 hm.1.1 rfl d_Model_ends_41 (s_varr (hm.1.2.2 25 _ rfl).2 (by omega)) ?_
        refine go_iload_n X d_Model_ends_44 rfl rfl ?_
        obtain ⟨hc14, hF15⟩ := chk_t hF13
        refine go_iald X (hm.1.2.2 25 _ rfl).1 (by decide) hc14 d_Model_ends_45 ?_
        refine go_top (v' := vi (S1 26 x2)) X (congrArg (fun q => vi q) ((hm.a (by decide) x2).trans (rfl))) ?_
        obtain ⟨hc16, hF17⟩ := chk_t hF15
        refine go_iast (x := (S1 26 x2)) X (hm.1.2.2 27 _ rfl).1 (by decide) hc16 d_Model_ends_46 ?_
        have md18 : mq sh M0 (m_s M1 (r + 28) ((180 * (S1 0 44)) + x2) (S1 26 x2)) r (m_s S1 28 ((180 * (S1 0 44)) + x2) (S1 26 x2)) := hm.put (by decide) ((rg_A (by decide) (hm.gA (by decide) x2)))
        generalize m_s M1 (r + 28) ((180 * (S1 0 44)) + x2) (S1 26 x2) = M19 at md18 ⊢
        obtain ⟨hc20, hF21⟩ := chk_t hF17
        refine go_iinc (v := 1) (x := x2) (lv' := [(2, vi (x2 + 1)), (0, vr r), (1, vi x1)]) X d_Model_ends_47 rfl (by decide) rfl ?_
        refine go_goto (tgt := 21) X d_Model_ends_50 rfl ?_
        refine go_lv (lv' := [(0, vr r), (1, vi x1), (2, vi (x2 + 1))]) X [1, 2, 0] rfl ?_
        exact ih21 x1 (x2 + 1) (m_s S1 28 ((180 * (S1 0 44)) + x2) (S1 26 x2)) M19 hx1 hc20 md18 hF21
  rw [A_ends_e] at hF
  refine go_aload_n X d_Model_ends_0 rfl rfl ?_
  refine go_get (v := vi (S 0 44)) X f_Model_377 h.1.1 rfl d_Model_ends_1 (congrArg (s_v .int) ((h.s 44).trans (rfl))) ?_
  refine go_bipush (v := 24) X d_Model_ends_4 (by decide) ?_
  refine go_icmp_ge (tgt := 53) X d_Model_ends_6 rfl (h.gS 44 (by decide) (by decide)) (by decide) (fun hq22 => ?_) (fun hq22 => ?_)
  · skip
    have hF23 := if_f hF (Int.not_lt.mpr hq22)
    refine go_lv (lv' := [(0, vr r)]) X [0] rfl ?_
    exact hJ53  S M  h hF23
  · skip
    have hF24 := if_t hF hq22
    refine go_aload_n X d_Model_ends_9 rfl rfl ?_
    refine go_get (v := vr (r + 27)) X f_Model_89 h.1.1 rfl d_Model_ends_10 (s_varr (h.1.2.2 26 _ rfl).2 (by omega)) ?_
    refine go_aload_n X d_Model_ends_13 rfl rfl ?_
    refine go_get (v := vi (S 0 44)) X f_Model_377 h.1.1 rfl d_Model_ends_14 (congrArg (s_v .int) ((h.s 44).trans (rfl))) ?_
    refine go_iload_n X d_Model_ends_17 rfl rfl ?_
    obtain ⟨hc25, hF26⟩ := chk_t hF24
    refine go_iast (x := x1) X (h.1.2.2 26 _ rfl).1 (by decide) hc25 d_Model_ends_18 ?_
    have md27 : mq sh M0 (m_s M (r + 27) (S 0 44) x1) r (m_s S 27 (S 0 44) x1) := h.put (by decide) ((rg_A (by decide) hx1))
    generalize m_s M (r + 27) (S 0 44) x1 = M28 at md27 ⊢
    refine go_iconst (v := 0) X d_Model_ends_19 ?_
    refine go_istore_n (lv' := [(2, vi 0), (0, vr r), (1, vi x1)]) X d_Model_ends_20 rfl (by decide) rfl ?_
    refine go_lv (lv' := [(0, vr r), (1, vi x1), (2, vi 0)]) X [1, 2, 0] rfl ?_
    exact hL21 N x1 0 (m_s S 27 (S 0 44) x1) M28 hx1 (by decide) md27 hF26
def A_room_j15 (N : Nat) (S : s_M) : rO := some (if (S 0 26) < 12 then (1 : Int) else 0, S)
theorem A_room_j15_e (N : Nat) (S : s_M) : A_room_j15 N S = (some (if (S 0 26) < 12 then (1 : Int) else 0, S)) := rfl
def A_room (N : Nat) (S : s_M) : rO := if (S 0 26) = 12 then (bnd (A_warn N 8 S) fun v6 S7 => A_room_j15 N  S7) else (A_room_j15 N  S)
theorem A_room_e (N : Nat) (S : s_M) : A_room N S = (if (S 0 26) = 12 then (bnd (A_warn N 8 S) fun v6 S7 => A_room_j15 N  S7) else (A_room_j15 N  S)) := rfl
set_option maxHeartbeats 4000000 in
set_option maxRecDepth 100000 in
theorem a_room (l : Launch) (D : va_G) {sh : s_S} {M0 M : s_M} {sz r  : Int} {N : Nat} {S S0 : s_M} {v0 : Int} (h : mq sh M0 M r S) (hF : A_room N S = some (v0, S0)) : Sp l D y_Model_room prog_14_method_49_code 1 (some .boolean) 2 0 0 [vr r] sh M sz (fun v' sh' M' sz' => v' = some (vi v0) ∧ sh' = sh ∧ sz' = sz ∧ rI v0 ∧ mq sh M0 M' r S0) := by
  have hr0 := h.1.2.1
  refine Sp.ofGo (own := "CiteForgeModel") (nm := "room") (by decide) rfl rfl (Nat.le_of_ble_eq_true rfl) (lv := [(0, vr r)]) rfl ?_
  intro g X
  have hJ15 : ∀ (S1 M1 : s_M), mq sh M0 M1 r S1 → A_room_j15 N S1 = some (v0, S0) → Go g 0 0 sh M1 sz 15 [(0, vr r)] [] := by
    intro S1 M1 hm hF
    rw [A_room_j15_e] at hF
    refine go_aload_n X d_Model_room_15 rfl rfl ?_
    refine go_get (v := vi (S1 0 26)) X f_Model_250 hm.1.1 rfl d_Model_room_16 (congrArg (s_v .int) ((hm.s 26).trans (rfl))) ?_
    refine go_bipush (v := 12) X d_Model_room_19 (by decide) ?_
    suffices hv1 : Go g 0 0 sh M1 sz 29 [(0, vr r)] [vi (if (S1 0 26) < 12 then (1 : Int) else 0)] by
      refine go_icmp_ge (tgt := 28) X d_Model_room_21 rfl (hm.gS 26 (by decide) (by decide)) (by decide) (fun hq2 => ?_) (fun hq2 => ?_)
      · skip
        refine go_iconst (v := 0) X d_Model_room_28 ?_
        refine go_top (v' := vi (if (S1 0 26) < 12 then (1 : Int) else 0)) X (congrArg (fun q => vi q) (show 0 = if (S1 0 26) < 12 then (1 : Int) else 0 from ((if_neg (Int.not_lt.mpr hq2))).symm)) ?_
        exact hv1
      · skip
        refine go_iconst (v := 1) X d_Model_room_24 ?_
        refine go_goto (tgt := 29) X d_Model_room_25 rfl ?_
        refine go_top (v' := vi (if (S1 0 26) < 12 then (1 : Int) else 0)) X (congrArg (fun q => vi q) (show 1 = if (S1 0 26) < 12 then (1 : Int) else 0 from ((if_pos hq2)).symm)) ?_
        exact hv1
    exact go_iret X d_Model_room_29 rfl (n_nz (z_ite (by decide) (by decide))) (by decide) (by decide) (ret_i hF (rI_ite (by decide) (by decide)) hm)
  rw [A_room_e] at hF
  refine go_aload_n X d_Model_room_0 rfl rfl ?_
  refine go_get (v := vi (S 0 26)) X f_Model_250 h.1.1 rfl d_Model_room_1 (congrArg (s_v .int) ((h.s 26).trans (rfl))) ?_
  refine go_bipush (v := 12) X d_Model_room_4 (by decide) ?_
  refine go_icmp_ne (tgt := 15) X d_Model_room_6 rfl (h.gS 26 (by decide) (by decide)) (by decide) (fun hq3 => ?_) (fun hq3 => ?_)
  · skip
    have hF4 := if_f hF hq3
    refine go_lv (lv' := [(0, vr r)]) X [0] rfl ?_
    exact hJ15  S M  h hF4
  · skip
    have hF5 := if_t hF hq3
    refine go_aload_n X d_Model_room_9 rfl rfl ?_
    refine go_bipush (v := 8) X d_Model_room_10 (by decide) ?_
    obtain ⟨v6, S7, hG8, hF9⟩ := bnd_t hF5
    refine go_cV (st2 := []) (r := []) X k_Model_144 (a_warn l D h (by decide) hG8) h.1.1 rfl rfl (by decide) (Nat.le_of_ble_eq_true rfl) d_Model_room_12 (by decide) (by decide) (fun v' sh' M10 sz' hpp => ?_)
    obtain ⟨e1, e2, e3, md11⟩ := hpp
    subst e1
    rw [e2, e3]
    clear e2 e3
    show Go g 0 0 sh M10 sz 15 [(0, vr r)] []
    refine go_lv (lv' := [(0, vr r)]) X [0] rfl ?_
    exact hJ15  S7 M10  md11 hF9
def A_giveMissing (N : Nat) (S : s_M) : rO := bnd (A_room N S) fun v1 S2 => if v1 = 0 then (some (0, S2)) else (chk (0 ≤ (S2 0 26) ∧ (S2 0 26) < 12) <| chk (rI ((S2 0 26) + 1)) <| some (0, m_s (m_s S2 16 (S2 0 26) 2) 0 26 ((S2 0 26) + 1)))
theorem A_giveMissing_e (N : Nat) (S : s_M) : A_giveMissing N S = (bnd (A_room N S) fun v1 S2 => if v1 = 0 then (some (0, S2)) else (chk (0 ≤ (S2 0 26) ∧ (S2 0 26) < 12) <| chk (rI ((S2 0 26) + 1)) <| some (0, m_s (m_s S2 16 (S2 0 26) 2) 0 26 ((S2 0 26) + 1)))) := rfl
set_option maxHeartbeats 4000000 in
set_option maxRecDepth 100000 in
theorem a_giveMissing (l : Launch) (D : va_G) {sh : s_S} {M0 M : s_M} {sz r  : Int} {N : Nat} {S S0 : s_M} {v0 : Int} (h : mq sh M0 M r S) (hF : A_giveMissing N S = some (v0, S0)) : Sp l D y_Model_giveMissing prog_14_method_52_code 1 none 3 0 0 [vr r] sh M sz (fun v' sh' M' sz' => v' = none ∧ sh' = sh ∧ sz' = sz ∧ mq sh M0 M' r S0) := by
  have hr0 := h.1.2.1
  refine Sp.ofGo (own := "CiteForgeModel") (nm := "giveMissing") (by decide) rfl rfl (Nat.le_of_ble_eq_true rfl) (lv := [(0, vr r)]) rfl ?_
  intro g X
  rw [A_giveMissing_e] at hF
  refine go_aload_n X d_Model_giveMissing_0 rfl rfl ?_
  obtain ⟨v1, S2, hG3, hF4⟩ := bnd_t hF
  refine go_cV (st2 := []) (r := []) X k_Model_253 (a_room l D h hG3) h.1.1 rfl rfl (by decide) (Nat.le_of_ble_eq_true rfl) d_Model_giveMissing_1 (by decide) (by decide) (fun v' sh' M5 sz' hpp => ?_)
  obtain ⟨e1, e2, e3, hv7, md6⟩ := hpp
  subst e1
  rw [e2, e3]
  clear e2 e3
  show Go g 0 0 sh M5 sz 4 [(0, vr r)] [vi v1]
  refine go_if_ne (tgt := 8) X d_Model_giveMissing_4 rfl hv7 (fun hq8 => ?_) (fun hq8 => ?_)
  · skip
    have hF9 := if_f hF4 hq8
    refine go_aload_n X d_Model_giveMissing_8 rfl rfl ?_
    refine go_get (v := vr (r + 16)) X f_Model_56 md6.1.1 rfl d_Model_giveMissing_9 (s_varr (md6.1.2.2 15 _ rfl).2 (by omega)) ?_
    refine go_aload_n X d_Model_giveMissing_12 rfl rfl ?_
    refine go_get (v := vi (S2 0 26)) X f_Model_250 md6.1.1 rfl d_Model_giveMissing_13 (congrArg (s_v .int) ((md6.s 26).trans (rfl))) ?_
    refine go_iconst (v := 2) X d_Model_giveMissing_16 ?_
    obtain ⟨hc10, hF11⟩ := chk_t hF9
    refine go_iast (x := 2) X (md6.1.2.2 15 _ rfl).1 (by decide) hc10 d_Model_giveMissing_17 ?_
    have md12 : mq sh M0 (m_s M5 (r + 16) (S2 0 26) 2) r (m_s S2 16 (S2 0 26) 2) := md6.put (by decide) ((rg_A (by decide) (by decide)))
    generalize m_s M5 (r + 16) (S2 0 26) 2 = M13 at md12 ⊢
    refine go_aload_n X d_Model_giveMissing_18 rfl rfl ?_
    refine go_dup X d_Model_giveMissing_19 rfl ?_
    refine go_get (v := vi (S2 0 26)) X f_Model_250 md12.1.1 rfl d_Model_giveMissing_20 (congrArg (s_v .int) ((md12.s 26).trans ((m_sk (by decide)).trans (rfl)))) ?_
    refine go_iconst (v := 1) X d_Model_giveMissing_23 ?_
    refine go_iadd X d_Model_giveMissing_24 ?_
    obtain ⟨hc14, hF15⟩ := chk_t hF11
    refine go_put (x := ((S2 0 26) + 1)) (v := vi ((S2 0 26) + 1)) X f_Model_250 md12.1.1 rfl d_Model_giveMissing_25 rfl rfl rfl ?_
    have md16 : mq sh M0 (m_s M13 r 26 ((S2 0 26) + 1)) r (m_s (m_s S2 16 (S2 0 26) 2) 0 26 ((S2 0 26) + 1)) := md12.put0 (by decide) ((rg_S (by decide) (by decide) hc14))
    generalize m_s M13 r 26 ((S2 0 26) + 1) = M17 at md16 ⊢
    exact go_vret X d_Model_giveMissing_28 rfl (by decide) (by decide) (ret_v hF15 md16)
  · skip
    have hF18 := if_t hF4 hq8
    exact go_vret X d_Model_giveMissing_7 rfl (by decide) (by decide) (ret_v hF18 md6)
