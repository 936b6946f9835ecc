def A_giveText (N : Nat) (x1 : Int) (S : s_M) : rO := bnd (A_room N S) fun v1 S2 => if v1 = 0 then (some (0, S2)) else (chk (0 ≤ (S2 0 26) ∧ (S2 0 26) < 12) <| chk (rI (70 + (S2 0 26))) <| bnd (A_copy N x1 (70 + (S2 0 26)) (m_s S2 16 (S2 0 26) 1)) fun v16 S17 => chk (rI ((S17 0 26) + 1)) <| some (0, m_s S17 0 26 ((S17 0 26) + 1)))
theorem A_giveText_e (N : Nat) (x1 : Int) (S : s_M) : A_giveText N x1 S = (bnd (A_room N S) fun v1 S2 => if v1 = 0 then (some (0, S2)) else (chk (0 ≤ (S2 0 26) ∧ (S2 0 26) < 12) <| chk (rI (70 + (S2 0 26))) <| bnd (A_copy N x1 (70 + (S2 0 26)) (m_s S2 16 (S2 0 26) 1)) fun v16 S17 => chk (rI ((S17 0 26) + 1)) <| some (0, m_s S17 0 26 ((S17 0 26) + 1)))) := rfl
set_option maxHeartbeats 4000000 in
set_option maxRecDepth 100000 in
theorem a_giveText (l : Launch) (D : va_G) {sh : s_S} {M0 M : s_M} {sz r x1 : Int} {N : Nat} {S S0 : s_M} {v0 : Int} (h : mq sh M0 M r S) (hx1 : rI x1) (hF : A_giveText N x1 S = some (v0, S0)) : Sp l D y_Model_giveText prog_14_method_51_code 2 none 3 0 0 [vr r, vi x1] sh M sz (fun v' sh' M' sz' => v' = none ∧ sh' = sh ∧ sz' = sz ∧ mq sh M0 M' r S0) := by
  have hr0 := h.1.2.1
  refine Sp.ofGo (own := "CiteForgeModel") (nm := "giveText") (by decide) rfl rfl (Nat.le_of_ble_eq_true rfl) (lv := [(0, vr r), (1, vi x1)]) rfl ?_
  intro g X
  rw [A_giveText_e] at hF
  refine go_aload_n X d_Model_giveText_0 rfl rfl ?_
  obtain ⟨v1, S2, hG3, hF4⟩ := bnd_t hF
  refine go_cV (st2 := []) (r := []) X k_Model_253 (a_room l D h hG3) h.1.1 rfl rfl (by decide) (Nat.le_of_ble_eq_true rfl) d_Model_giveText_1 (by decide) (by decide) (fun v' sh' M5 sz' hpp => ?_)
  obtain ⟨e1, e2, e3, hv7, md6⟩ := hpp
  subst e1
  rw [e2, e3]
  clear e2 e3
  show Go g 0 0 sh M5 sz 4 [(0, vr r), (1, vi x1)] [vi v1]
  refine go_if_ne (tgt := 8) X d_Model_giveText_4 rfl hv7 (fun hq8 => ?_) (fun hq8 => ?_)
  · skip
    have hF9 := if_f hF4 hq8
    refine go_aload_n X d_Model_giveText_8 rfl rfl ?_
    refine go_get (v := vr (r + 16)) X f_Model_56 md6.1.1 rfl d_Model_giveText_9 (s_varr (md6.1.2.2 15 _ rfl).2 (by omega)) ?_
    refine go_aload_n X d_Model_giveText_12 rfl rfl ?_
    refine go_get (v := vi (S2 0 26)) X f_Model_250 md6.1.1 rfl d_Model_giveText_13 (congrArg (s_v .int) ((md6.s 26).trans (rfl))) ?_
    refine go_iconst (v := 1) X d_Model_giveText_16 ?_
    obtain ⟨hc10, hF11⟩ := chk_t hF9
    refine go_iast (x := 1) X (md6.1.2.2 15 _ rfl).1 (by decide) hc10 d_Model_giveText_17 ?_
    have md12 : mq sh M0 (m_s M5 (r + 16) (S2 0 26) 1) r (m_s S2 16 (S2 0 26) 1) := md6.put (by decide) ((rg_A (by decide) (by decide)))
    generalize m_s M5 (r + 16) (S2 0 26) 1 = M13 at md12 ⊢
    refine go_aload_n X d_Model_giveText_18 rfl rfl ?_
    refine go_iload_n X d_Model_giveText_19 rfl rfl ?_
    refine go_bipush (v := 70) X d_Model_giveText_20 (by decide) ?_
    refine go_aload_n X d_Model_giveText_22 rfl rfl ?_
    refine go_get (v := vi (S2 0 26)) X f_Model_250 md12.1.1 rfl d_Model_giveText_23 (congrArg (s_v .int) ((md12.s 26).trans ((m_sk (by decide)).trans (rfl)))) ?_
    refine go_iadd X d_Model_giveText_26 ?_
    obtain ⟨hc14, hF15⟩ := chk_t hF11
    obtain ⟨v16, S17, hG18, hF19⟩ := bnd_t hF15
    refine go_cV (st2 := []) (r := []) X k_Model_194 (a_copy l D md12 hx1 hc14 hG18) md12.1.1 rfl rfl (by decide) (Nat.le_of_ble_eq_true rfl) d_Model_giveText_27 (by decide) (by decide) (fun v' sh' M20 sz' hpp => ?_)
    obtain ⟨e1, e2, e3, md21⟩ := hpp
    subst e1
    rw [e2, e3]
    clear e2 e3
    show Go g 0 0 sh M20 sz 30 [(0, vr r), (1, vi x1)] []
    refine go_aload_n X d_Model_giveText_30 rfl rfl ?_
    refine go_dup X d_Model_giveText_31 rfl ?_
    refine go_get (v := vi (S17 0 26)) X f_Model_250 md21.1.1 rfl d_Model_giveText_32 (congrArg (s_v .int) ((md21.s 26).trans (rfl))) ?_
    refine go_iconst (v := 1) X d_Model_giveText_35 ?_
    refine go_iadd X d_Model_giveText_36 ?_
    obtain ⟨hc23, hF24⟩ := chk_t hF19
    refine go_put (x := ((S17 0 26) + 1)) (v := vi ((S17 0 26) + 1)) X f_Model_250 md21.1.1 rfl d_Model_giveText_37 rfl rfl rfl ?_
    have md25 : mq sh M0 (m_s M20 r 26 ((S17 0 26) + 1)) r (m_s S17 0 26 ((S17 0 26) + 1)) := md21.put0 (by decide) ((rg_S (by decide) (by decide) hc23))
    generalize m_s M20 r 26 ((S17 0 26) + 1) = M26 at md25 ⊢
    exact go_vret X d_Model_giveText_40 rfl (by decide) (by decide) (ret_v hF24 md25)
  · skip
    have hF27 := if_t hF4 hq8
    exact go_vret X d_Model_giveText_7 rfl (by decide) (by decide) (ret_v hF27 md6)
def A_unpack_j66 (N : Nat) (S : s_M) : rO := some (0, S)
theorem A_unpack_j66_e (N : Nat) (S : s_M) : A_unpack_j66 N S = (some (0, S)) := rfl
def A_unpack_j60 (N : Nat) (k11 : Int → Int → Int → Int → s_M → rO) (x1 x3 x4 x5 : Int) (S : s_M) : rO := chk (rI (x5 + 1)) <| k11 x1 x3 x4 (x5 + 1) S
theorem A_unpack_j60_e (N : Nat) (k11 : Int → Int → Int → Int → s_M → rO) (x1 x3 x4 x5 : Int) (S : s_M) : A_unpack_j60 N k11 x1 x3 x4 x5 S = (chk (rI (x5 + 1)) <| k11 x1 x3 x4 (x5 + 1) S) := rfl
def A_unpack_l11 (N : Nat) : Nat → Int → Int → Int → Int → s_M → rO
  | 0, _, _, _, _, _ => none
  | n + 1, x1, x3, x4, x5, S => if x5 < 8 then (if x4 = 0 then (A_unpack_j66 N  S) else (chk (rI (8 * x5)) <| if (decide (32 ≤ (wi32 (l_and (s_sar x1 (8 * x5)) 255)) ∧ (wi32 (l_and (s_sar x1 (8 * x5)) 255)) ≤ 126)) = true then (bnd (A_add N x3 (wi32 (l_and (s_sar x1 (8 * x5)) 255)) S) fun v14 S15 => A_unpack_j60 N (A_unpack_l11 N n) x1 x3 (s_b (decide (32 ≤ (wi32 (l_and (s_sar x1 (8 * x5)) 255)) ∧ (wi32 (l_and (s_sar x1 (8 * x5)) 255)) ≤ 126))) x5 S15) else (A_unpack_j60 N (A_unpack_l11 N n) x1 x3 (s_b (decide (32 ≤ (wi32 (l_and (s_sar x1 (8 * x5)) 255)) ∧ (wi32 (l_and (s_sar x1 (8 * x5)) 255)) ≤ 126))) x5 S))) else (A_unpack_j66 N  S)
theorem A_unpack_l11_e (N : Nat) (n : Nat) (x1 x3 x4 x5 : Int) (S : s_M) : A_unpack_l11 N (n + 1) x1 x3 x4 x5 S = (if x5 < 8 then (if x4 = 0 then (A_unpack_j66 N  S) else (chk (rI (8 * x5)) <| if (decide (32 ≤ (wi32 (l_and (s_sar x1 (8 * x5)) 255)) ∧ (wi32 (l_and (s_sar x1 (8 * x5)) 255)) ≤ 126)) = true then (bnd (A_add N x3 (wi32 (l_and (s_sar x1 (8 * x5)) 255)) S) fun v14 S15 => A_unpack_j60 N (A_unpack_l11 N n) x1 x3 (s_b (decide (32 ≤ (wi32 (l_and (s_sar x1 (8 * x5)) 255)) ∧ (wi32 (l_and (s_sar x1 (8 * x5)) 255)) ≤ 126))) x5 S15) else (A_unpack_j60 N (A_unpack_l11 N n) x1 x3 (s_b (decide (32 ≤ (wi32 (l_and (s_sar x1 (8 * x5)) 255)) ∧ (wi32 (l_and (s_sar x1 (8 * x5)) 255)) ≤ 126))) x5 S))) else (A_unpack_j66 N  S)) := rfl
def A_unpack (N : Nat) (x1 x3 : Int) (S : s_M) : rO := bnd (A_clearText N x3 S) fun v21 S22 => A_unpack_l11 N N x1 x3 1 0 S22
theorem A_unpack_e (N : Nat) (x1 x3 : Int) (S : s_M) : A_unpack N x1 x3 S = (bnd (A_clearText N x3 S) fun v21 S22 => A_unpack_l11 N N x1 x3 1 0 S22) := rfl
set_option maxHeartbeats 4000000 in
set_option maxRecDepth 100000 in
theorem a_unpack (l : Launch) (D : va_G) {sh : s_S} {M0 M : s_M} {sz r x1 x3 : Int} {N : Nat} {S S0 : s_M} {v0 : Int} (h : mq sh M0 M r S) (hx1 : rL x1) (hx3 : rI x3) (hF : A_unpack N x1 x3 S = some (v0, S0)) : Sp l D y_Model_unpack prog_14_method_17_code 7 none 2 0 0 [vr r, vl x1, vi x3] sh M sz (fun v' sh' M' sz' => v' = none ∧ sh' = sh ∧ sz' = sz ∧ mq sh M0 M' r S0) := by
  have hr0 := h.1.2.1
  refine Sp.ofGo (own := "CiteForgeModel") (nm := "unpack") (by decide) rfl rfl (Nat.le_of_ble_eq_true rfl) (lv := [(0, vr r), (1, vl x1), (3, vi x3)]) rfl ?_
  intro g X
  have hJ66 : ∀ (S1 M1 : s_M), mq sh M0 M1 r S1 → A_unpack_j66 N S1 = some (v0, S0) → Go g 0 0 sh M1 sz 66 [(0, vr r)] [] := by
    intro S1 M1 hm hF
    rw [A_unpack_j66_e] at hF
    exact go_vret X d_Model_unpack_66 rfl (by decide) (by decide) (ret_v hF hm)
  have hL11 : ∀ (n11 : Nat) (x1 x3 x4 x5 : Int) (S1 M1 : s_M), rL x1 → rI x3 → rI x4 → rI x5 → mq sh M0 M1 r S1 → A_unpack_l11 N n11 x1 x3 x4 x5 S1 = some (v0, S0) → Go g 0 0 sh M1 sz 11 [(0, vr r), (1, vl x1), (3, vi x3), (4, vi x4), (5, vi x5)] [] := by
    intro n11
    induction n11 with
    | zero => intro x1 x3 x4 x5 S1 M1 hx1 hx3 hx4 hx5 hm hF; cases hF
    | succ n11 ih11 =>
      have hJ60 : ∀ (x1 x3 x4 x5 : Int) (S1 M1 : s_M), rL x1 → rI x3 → rI x4 → rI x5 → mq sh M0 M1 r S1 → A_unpack_j60 N (A_unpack_l11 N n11) x1 x3 x4 x5 S1 = some (v0, S0) → Go g 0 0 sh M1 sz 60 [(0, vr r), (1, vl x1), (3, vi x3), (4, vi x4), (5, vi x5)] [] := by
        intro x1 x3 x4 x5 S1 M1 hx1 hx3 hx4 hx5 hm hF
        rw [A_unpack_j60_e] at hF
        obtain ⟨hc1, hF2⟩ := chk_t hF
        refine go_iinc (v := 1) (x := x5) (lv' := [(5, vi (x5 + 1)), (0, vr r), (1, vl x1), (3, vi x3), (4, vi x4)]) X d_Model_unpack_60 rfl (by decide) rfl ?_
        refine go_goto (tgt := 11) X d_Model_unpack_63 rfl ?_
        refine go_lv (lv' := [(0, vr r), (1, vl x1), (3, vi x3), (4, vi x4), (5, vi (x5 + 1))]) X [1, 2, 3, 4, 0] rfl ?_
        exact ih11 x1 x3 x4 (x5 + 1) S1 M1 hx1 hx3 hx4 hc1 hm hF2
      intro x1 x3 x4 x5 S1 M1 hx1 hx3 hx4 hx5 hm hF
      rw [A_unpack_l11_e] at hF
      refine go_iload X d_Model_unpack_11 rfl ?_
      refine go_bipush (v := 8) X d_Model_unpack_13 (by decide) ?_
      refine go_icmp_ge (tgt := 66) X d_Model_unpack_15 rfl hx5 (by decide) (fun hq3 => ?_) (fun hq3 => ?_)
      · skip
        have hF4 := if_f hF (Int.not_lt.mpr hq3)
        refine go_lv (lv' := [(0, vr r)]) X [0] rfl ?_
        exact hJ66  S1 M1  hm hF4
      · skip
        have hF5 := if_t hF hq3
        refine go_iload X d_Model_unpack_18 rfl ?_
        refine go_if_eq (tgt := 66) X d_Model_unpack_20 rfl hx4 (fun hq6 => ?_) (fun hq6 => ?_)
        · skip
          have hF7 := if_t hF5 hq6
          refine go_lv (lv' := [(0, vr r)]) X [0] rfl ?_
          exact hJ66  S1 M1  hm hF7
        · skip
          have hF8 := if_f hF5 hq6
          refine go_lload_n X d_Model_unpack_23 rfl rfl ?_
          refine go_bipush (v := 8) X d_Model_unpack_24 (by decide) ?_
          refine go_iload X d_Model_unpack_26 rfl ?_
          refine go_imul X d_Model_unpack_28 ?_
          obtain ⟨hc9, hF10⟩ := chk_t hF8
          refine go_lshr (z := s_sar x1 (8 * x5)) X d_Model_unpack_29 (Int64.ofInt_toInt _).symm ?_
          refine go_ldc2 (x := 255) X w_kl_Model_114 (by decide) d_Model_unpack_30 ?_
          refine go_land (z := l_and (s_sar x1 (8 * x5)) 255) X d_Model_unpack_33 (Int64.ofInt_toInt _).symm ?_
          refine go_l2i X d_Model_unpack_34 ?_
          refine go_top (v' := vi (wi32 (l_and (s_sar x1 (8 * x5)) 255))) X (wi32_vi _) ?_
          refine go_istore (lv' := [(6, vi (wi32 (l_and (s_sar x1 (8 * x5)) 255))), (0, vr r), (1, vl x1), (3, vi x3), (4, vi x4), (5, vi x5)]) X d_Model_unpack_35 (by decide) rfl ?_
          refine go_iload X d_Model_unpack_37 rfl ?_
          refine go_bipush (v := 32) X d_Model_unpack_39 (by decide) ?_
          refine go_bipush (v := 126) X d_Model_unpack_41 (by decide) ?_
          refine go_cSf (st2 := [vi (s_b (decide (32 ≤ (wi32 (l_and (s_sar x1 (8 * x5)) 255)) ∧ (wi32 (l_and (s_sar x1 (8 * x5)) 255)) ≤ 126)))]) (r := []) X k_Model_103 (m_within l D (wi32_rng _) (by decide) (by decide)) rfl rfl (by decide) (Nat.le_of_ble_eq_true rfl) d_Model_unpack_43 (by decide) (by decide) rfl ?_
          refine go_istore (lv' := [(4, vi (s_b (decide (32 ≤ (wi32 (l_and (s_sar x1 (8 * x5)) 255)) ∧ (wi32 (l_and (s_sar x1 (8 * x5)) 255)) ≤ 126)))), (6, vi (wi32 (l_and (s_sar x1 (8 * x5)) 255))), (0, vr r), (1, vl x1), (3, vi x3), (5, vi x5)]) X d_Model_unpack_46 (by decide) rfl ?_
          refine go_iload X d_Model_unpack_48 rfl ?_
          refine go_ifb_eq (tgt := 60) X d_Model_unpack_50 rfl (fun hq11 => ?_) (fun hq11 => ?_)
          · skip
            have hF12 := if_f hF10 (bnf hq11)
            refine go_lv (lv' := [(0, vr r), (1, vl x1), (3, vi x3), (4, vi (s_b (decide (32 ≤ (wi32 (l_and (s_sar x1 (8 * x5)) 255)) ∧ (wi32 (l_and (s_sar x1 (8 * x5)) 255)) ≤ 126)))), (5, vi x5)]) X [2, 3, 4, 0, 5] rfl ?_
            exact hJ60 x1 x3 (s_b (decide (32 ≤ (wi32 (l_and (s_sar x1 (8 * x5)) 255)) ∧ (wi32 (l_and (s_sar x1 (8 * x5)) 255)) ≤ 126))) x5 S1 M1 hx1 hx3 (rI_b _) hx5 hm hF12
          · skip
            have hF13 := if_t hF10 hq11
            refine go_aload_n X d_Model_unpack_53 rfl rfl ?_
            refine go_iload_n X d_Model_unpack_54 rfl rfl ?_
            refine go_iload X d_Model_unpack_55 rfl ?_
            obtain ⟨v14, S15, hG16, hF17⟩ := bnd_t hF13
            refine go_cV (st2 := []) (r := []) X k_Model_124 (a_add l D hm hx3 (wi32_rng _) hG16) hm.1.1 rfl rfl (by decide) (Nat.le_of_ble_eq_true rfl) d_Model_unpack_57 (by decide) (by decide) (fun v' sh' M18 sz' hpp => ?_)
            obtain ⟨e1, e2, e3, md19⟩ := hpp
            subst e1
            rw [e2, e3]
            clear e2 e3
            show Go g 0 0 sh M18 sz 60 [(4, vi (s_b (decide (32 ≤ (wi32 (l_and (s_sar x1 (8 * x5)) 255)) ∧ (wi32 (l_and (s_sar x1 (8 * x5)) 255)) ≤ 126)))), (6, vi (wi32 (l_and (s_sar x1 (8 * x5)) 255))), (0, vr r), (1, vl x1), (3, vi x3), (5, vi x5)] []
            refine go_lv (lv' := [(0, vr r), (1, vl x1), (3, vi x3), (4, vi (s_b (decide (32 ≤ (wi32 (l_and (s_sar x1 (8 * x5)) 255)) ∧ (wi32 (l_and (s_sar x1 (8 * x5)) 255)) ≤ 126)))), (5, vi x5)]) X [2, 3, 4, 0, 5] rfl ?_
            exact hJ60 x1 x3 (s_b (decide (32 ≤ (wi32 (l_and (s_sar x1 (8 * x5)) 255)) ∧ (wi32 (l_and (s_sar x1 (8 * x5)) 255)) ≤ 126))) x5 S15 M18 hx1 hx3 (rI_b _) hx5 md19 hF17
  rw [A_unpack_e] at hF
  refine go_aload_n X d_Model_unpack_0 rfl rfl ?_
  refine go_iload_n X d_Model_unpack_1 rfl rfl ?_
  obtain ⟨v21, S22, hG23, hF24⟩ := bnd_t hF
  refine go_cV (st2 := []) (r := []) X k_Model_120 (a_clearText l D h hx3 hG23) h.1.1 rfl rfl (by decide) (Nat.le_of_ble_eq_true rfl) d_Model_unpack_2 (by decide) (by decide) (fun v' sh' M25 sz' hpp => ?_)
  obtain ⟨e1, e2, e3, md26⟩ := hpp
  subst e1
  rw [e2, e3]
  clear e2 e3
  show Go g 0 0 sh M25 sz 5 [(0, vr r), (1, vl x1), (3, vi x3)] []
  refine go_iconst (v := 1) X d_Model_unpack_5 ?_
  refine go_istore (lv' := [(4, vi 1), (0, vr r), (1, vl x1), (3, vi x3)]) X d_Model_unpack_6 (by decide) rfl ?_
  refine go_iconst (v := 0) X d_Model_unpack_8 ?_
  refine go_istore (lv' := [(5, vi 0), (4, vi 1), (0, vr r), (1, vl x1), (3, vi x3)]) X d_Model_unpack_9 (by decide) rfl ?_
  refine go_lv (lv' := [(0, vr r), (1, vl x1), (3, vi x3), (4, vi 1), (5, vi 0)]) X [2, 3, 4, 1, 0] rfl ?_
  exact hL11 N x1 x3 1 0 S22 M25 hx1 hx3 (by decide) (by decide) md26 hF24
def A_entrys_j40 (N : Nat) (y0 : Int) (S : s_M) : rO := bnd (A_unpack N y0 84 S) fun v1 S2 => bnd (A_giveText N 84 S2) fun v8 S9 => some (0, S9)
theorem A_entrys_j40_e (N : Nat) (y0 : Int) (S : s_M) : A_entrys_j40 N y0 S = (bnd (A_unpack N y0 84 S) fun v1 S2 => bnd (A_giveText N 84 S2) fun v8 S9 => some (0, S9)) := rfl
def A_entrys (N : Nat) (x1 : Int) (S : s_M) : rO := if (S 0 31) < 0 then (bnd (A_giveMissing N S) fun v25 S26 => some (0, S26)) else (if x1 = 18 then (chk (0 ≤ (S 0 31) ∧ (S 0 31) < 9) <| A_entrys_j40 N (S 5 (S 0 31)) S) else (chk (0 ≤ (S 0 31) ∧ (S 0 31) < 9) <| A_entrys_j40 N (S 6 (S 0 31)) S))
theorem A_entrys_e (N : Nat) (x1 : Int) (S : s_M) : A_entrys N x1 S = (if (S 0 31) < 0 then (bnd (A_giveMissing N S) fun v25 S26 => some (0, S26)) else (if x1 = 18 then (chk (0 ≤ (S 0 31) ∧ (S 0 31) < 9) <| A_entrys_j40 N (S 5 (S 0 31)) S) else (chk (0 ≤ (S 0 31) ∧ (S 0 31) < 9) <| A_entrys_j40 N (S 6 (S 0 31)) S))) := rfl
set_option maxHeartbeats 4000000 in
set_option maxRecDepth 100000 in
theorem a_entrys (l : Launch) (D : va_G) {sh : s_S} {M0 M : s_M} {sz r x1 : Int} {N : Nat} {S S0 : s_M} {v0 : Int} (h : mq sh M0 M r S) (hx1 : rI x1) (hF : A_entrys N x1 S = some (v0, S0)) : Sp l D y_Model_entrys prog_14_method_60_code 2 none 4 0 0 [vr r, vi x1] sh M sz (fun v' sh' M' sz' => v' = none ∧ sh' = sh ∧ sz' = sz ∧ mq sh M0 M' r S0) := by
  have hr0 := h.1.2.1
  refine Sp.ofGo (own := "CiteForgeModel") (nm := "entrys") (by decide) rfl rfl (Nat.le_of_ble_eq_true rfl) (lv := [(0, vr r), (1, vi x1)]) rfl ?_
  intro g X
  have hJ40 : ∀ (y0 : Int) (S1 M1 : s_M), rL y0 → mq sh M0 M1 r S1 → A_entrys_j40 N y0 S1 = some (v0, S0) → Go g 0 0 sh M1 sz 40 [(0, vr r)] [vl y0, vr r] := by
    intro y0 S1 M1 hy0 hm hF
    rw [A_entrys_j40_e] at hF
    refine go_bipush (v := 84) X d_Model_entrys_40 (by decide) ?_
    obtain ⟨v1, S2, hG3, hF4⟩ := bnd_t hF
    refine go_cV (st2 := []) (r := []) X k_Model_282 (a_unpack l D hm hy0 (by decide) hG3) hm.1.1 rfl rfl (by decide) (Nat.le_of_ble_eq_true rfl) d_Model_entrys_42 (by decide) (by decide) (fun v' sh' M5 sz' hpp => ?_)
    obtain ⟨e1, e2, e3, md6⟩ := hpp
    subst e1
    rw [e2, e3]
    clear e2 e3
    show Go g 0 0 sh M5 sz 45 [(0, vr r)] []
    refine go_aload_n X d_Model_entrys_45 rfl rfl ?_
    refine go_bipush (v := 84) X d_Model_entrys_46 (by decide) ?_
    obtain ⟨v8, S9, hG10, hF11⟩ := bnd_t hF4
    refine go_cV (st2 := []) (r := []) X k_Model_263 (a_giveText l D md6 (by decide) hG10) md6.1.1 rfl rfl (by decide) (Nat.le_of_ble_eq_true rfl) d_Model_entrys_48 (by decide) (by decide) (fun v' sh' M12 sz' hpp => ?_)
    obtain ⟨e1, e2, e3, md13⟩ := hpp
    subst e1
    rw [e2, e3]
    clear e2 e3
    show Go g 0 0 sh M12 sz 51 [(0, vr r)] []
    exact go_vret X d_Model_entrys_51 rfl (by decide) (by decide) (ret_v hF11 md13)
  rw [A_entrys_e] at hF
  refine go_aload_n X d_Model_entrys_0 rfl rfl ?_
  refine go_get (v := vi (S 0 31)) X f_Model_279 h.1.1 rfl d_Model_entrys_1 (congrArg (s_v .int) ((h.s 31).trans (rfl))) ?_
  refine go_if_ge (tgt := 12) X d_Model_entrys_4 rfl (h.gS 31 (by decide) (by decide)) (fun hq15 => ?_) (fun hq15 => ?_)
  · skip
    have hF16 := if_f hF (Int.not_lt.mpr hq15)
    refine go_aload_n X d_Model_entrys_12 rfl rfl ?_
    refine go_iload_n X d_Model_entrys_13 rfl rfl ?_
    refine go_bipush (v := 18) X d_Model_entrys_14 (by decide) ?_
    refine go_icmp_ne (tgt := 31) X d_Model_entrys_16 rfl hx1 (by decide) (fun hq17 => ?_) (fun hq17 => ?_)
    · skip
      have hF18 := if_f hF16 hq17
      refine go_aload_n X d_Model_entrys_31 rfl rfl ?_
      refine go_get (v := vr (r + 6)) X f_Model_26 h.1.1 rfl d_Model_entrys_32 (s_varr (h.1.2.2 5 _ rfl).2 (by omega)) ?_
      refine go_aload_n X d_Model_entrys_35 rfl rfl ?_
      refine go_get (v := vi (S 0 31)) X f_Model_279 h.1.1 rfl d_Model_entrys_36 (congrArg (s_v .int) ((h.s 31).trans (rfl))) ?_
      obtain ⟨hc19, hF20⟩ := chk_t hF18
      refine go_lald X (h.1.2.2 5 _ rfl).1 (by decide) hc19 d_Model_entrys_39 ?_
      refine go_top (v' := vl (S 6 (S 0 31))) X (congrArg (fun q => vl q) ((h.a (by decide) (S 0 31)).trans (rfl))) ?_
      refine go_lv (lv' := [(0, vr r)]) X [0] rfl ?_
      exact hJ40 (S 6 (S 0 31)) S M (h.gL (by decide) (S 0 31)) h hF20
    · skip
      have hF21 := if_t hF16 hq17
      refine go_aload_n X d_Model_entrys_19 rfl rfl ?_
      refine go_get (v := vr (r + 5)) X f_Model_22 h.1.1 rfl d_Model_entrys_20 (s_varr (h.1.2.2 4 _ rfl).2 (by omega)) ?_
      refine go_aload_n X d_Model_entrys_23 rfl rfl ?_
      refine go_get (v := vi (S 0 31)) X f_Model_279 h.1.1 rfl d_Model_entrys_24 (congrArg (s_v .int) ((h.s 31).trans (rfl))) ?_
      obtain ⟨hc22, hF23⟩ := chk_t hF21
      refine go_lald X (h.1.2.2 4 _ rfl).1 (by decide) hc22 d_Model_entrys_27 ?_
      refine go_top (v' := vl (S 5 (S 0 31))) X (congrArg (fun q => vl q) ((h.a (by decide) (S 0 31)).trans (rfl))) ?_
      refine go_goto (tgt := 40) X d_Model_entrys_28 rfl ?_
      refine go_lv (lv' := [(0, vr r)]) X [0] rfl ?_
      exact hJ40 (S 5 (S 0 31)) S M (h.gL (by decide) (S 0 31)) h hF23
  · skip
    have hF24 := if_t hF hq15
    refine go_aload_n X d_Model_entrys_7 rfl rfl ?_
    obtain ⟨v25, S26, hG27, hF28⟩ := bnd_t hF24
    refine go_cV (st2 := []) (r := []) X k_Model_266 (a_giveMissing l D h hG27) h.1.1 rfl rfl (by decide) (Nat.le_of_ble_eq_true rfl) d_Model_entrys_8 (by decide) (by decide) (fun v' sh' M29 sz' hpp => ?_)
    obtain ⟨e1, e2, e3, md30⟩ := hpp
    subst e1
    rw [e2, e3]
    clear e2 e3
    show Go g 0 0 sh M29 sz 11 [(0, vr r), (1, vi x1)] []
    exact go_vret X d_Model_entrys_11 rfl (by decide) (by decide) (ret_v hF28 md30)
def A_giveNumber (N : Nat) (x1 : Int) (S : s_M) : rO := bnd (A_room N S) fun v1 S2 => if v1 = 0 then (some (0, S2)) else (chk (0 ≤ (S2 0 26) ∧ (S2 0 26) < 12) <| chk (0 ≤ (S2 0 26) ∧ (S2 0 26) < 12) <| chk (rI ((S2 0 26) + 1)) <| some (0, m_s (m_s (m_s S2 16 (S2 0 26) 0) 17 (S2 0 26) x1) 0 26 ((S2 0 26) + 1)))
theorem A_giveNumber_e (N : Nat) (x1 : Int) (S : s_M) : A_giveNumber N x1 S = (bnd (A_room N S) fun v1 S2 => if v1 = 0 then (some (0, S2)) else (chk (0 ≤ (S2 0 26) ∧ (S2 0 26) < 12) <| chk (0 ≤ (S2 0 26) ∧ (S2 0 26) < 12) <| chk (rI ((S2 0 26) + 1)) <| some (0, m_s (m_s (m_s S2 16 (S2 0 26) 0) 17 (S2 0 26) x1) 0 26 ((S2 0 26) + 1)))) := rfl
set_option maxHeartbeats 4000000 in
set_option maxRecDepth 100000 in
theorem a_giveNumber (l : Launch) (D : va_G) {sh : s_S} {M0 M : s_M} {sz r x1 : Int} {N : Nat} {S S0 : s_M} {v0 : Int} (h : mq sh M0 M r S) (hx1 : rI x1) (hF : A_giveNumber N x1 S = some (v0, S0)) : Sp l D y_Model_giveNumber prog_14_method_50_code 2 none 3 0 0 [vr r, vi x1] sh M sz (fun v' sh' M' sz' => v' = none ∧ sh' = sh ∧ sz' = sz ∧ mq sh M0 M' r S0) := by
  have hr0 := h.1.2.1
  refine Sp.ofGo (own := "CiteForgeModel") (nm := "giveNumber") (by decide) rfl rfl (Nat.le_of_ble_eq_true rfl) (lv := [(0, vr r), (1, vi x1)]) rfl ?_
  intro g X
  rw [A_giveNumber_e] at hF
  refine go_aload_n X d_Model_giveNumber_0 rfl rfl ?_
  obtain ⟨v1, S2, hG3, hF4⟩ := bnd_t hF
  refine go_cV (st2 := []) (r := []) X k_Model_253 (a_room l D h hG3) h.1.1 rfl rfl (by decide) (Nat.le_of_ble_eq_true rfl) d_Model_giveNumber_1 (by decide) (by decide) (fun v' sh' M5 sz' hpp => ?_)
  obtain ⟨e1, e2, e3, hv7, md6⟩ := hpp
  subst e1
  rw [e2, e3]
  clear e2 e3
  show Go g 0 0 sh M5 sz 4 [(0, vr r), (1, vi x1)] [vi v1]
  refine go_if_ne (tgt := 8) X d_Model_giveNumber_4 rfl hv7 (fun hq8 => ?_) (fun hq8 => ?_)
  · skip
    have hF9 := if_f hF4 hq8
    refine go_aload_n X d_Model_giveNumber_8 rfl rfl ?_
    refine go_get (v := vr (r + 16)) X f_Model_56 md6.1.1 rfl d_Model_giveNumber_9 (s_varr (md6.1.2.2 15 _ rfl).2 (by omega)) ?_
    refine go_aload_n X d_Model_giveNumber_12 rfl rfl ?_
    refine go_get (v := vi (S2 0 26)) X f_Model_250 md6.1.1 rfl d_Model_giveNumber_13 (congrArg (s_v .int) ((md6.s 26).trans (rfl))) ?_
    refine go_iconst (v := 0) X d_Model_giveNumber_16 ?_
    obtain ⟨hc10, hF11⟩ := chk_t hF9
    refine go_iast (x := 0) X (md6.1.2.2 15 _ rfl).1 (by decide) hc10 d_Model_giveNumber_17 ?_
    have md12 : mq sh M0 (m_s M5 (r + 16) (S2 0 26) 0) r (m_s S2 16 (S2 0 26) 0) := md6.put (by decide) ((rg_A (by decide) (by decide)))
    generalize m_s M5 (r + 16) (S2 0 26) 0 = M13 at md12 ⊢
    refine go_aload_n X d_Model_giveNumber_18 rfl rfl ?_
    refine go_get (v := vr (r + 17)) X f_Model_59 md12.1.1 rfl d_Model_giveNumber_19 (s_varr (md12.1.2.2 16 _ rfl).2 (by omega)) ?_
    refine go_aload_n X d_Model_giveNumber_22 rfl rfl ?_
    refine go_get (v := vi (S2 0 26)) X f_Model_250 md12.1.1 rfl d_Model_giveNumber_23 (congrArg (s_v .int) ((md12.s 26).trans ((m_sk (by decide)).trans (rfl)))) ?_
    refine go_iload_n X d_Model_giveNumber_26 rfl rfl ?_
    obtain ⟨hc14, hF15⟩ := chk_t hF11
    refine go_iast (x := x1) X (md12.1.2.2 16 _ rfl).1 (by decide) hc14 d_Model_giveNumber_27 ?_
    have md16 : mq sh M0 (m_s M13 (r + 17) (S2 0 26) x1) r (m_s (m_s S2 16 (S2 0 26) 0) 17 (S2 0 26) x1) := md12.put (by decide) ((rg_A (by decide) hx1))
    generalize m_s M13 (r + 17) (S2 0 26) x1 = M17 at md16 ⊢
    refine go_aload_n X d_Model_giveNumber_28 rfl rfl ?_
    refine go_dup X d_Model_giveNumber_29 rfl ?_
    refine go_get (v := vi (S2 0 26)) X f_Model_250 md16.1.1 rfl d_Model_giveNumber_30 (congrArg (s_v .int) ((md16.s 26).trans ((m_sk (by decide)).trans ((m_sk (by decide)).trans (rfl))))) ?_
    refine go_iconst (v := 1) X d_Model_giveNumber_33 ?_
    refine go_iadd X d_Model_giveNumber_34 ?_
    obtain ⟨hc18, hF19⟩ := chk_t hF15
    refine go_put (x := ((S2 0 26) + 1)) (v := vi ((S2 0 26) + 1)) X f_Model_250 md16.1.1 rfl d_Model_giveNumber_35 rfl rfl rfl ?_
    have md20 : mq sh M0 (m_s M17 r 26 ((S2 0 26) + 1)) r (m_s (m_s (m_s S2 16 (S2 0 26) 0) 17 (S2 0 26) x1) 0 26 ((S2 0 26) + 1)) := md16.put0 (by decide) ((rg_S (by decide) (by decide) hc18))
    generalize m_s M17 r 26 ((S2 0 26) + 1) = M21 at md20 ⊢
    exact go_vret X d_Model_giveNumber_38 rfl (by decide) (by decide) (ret_v hF19 md20)
  · skip
    have hF22 := if_t hF4 hq8
    exact go_vret X d_Model_giveNumber_7 rfl (by decide) (by decide) (ret_v hF22 md6)
def A_breaks_l54 (N : Nat) : Nat → Int → Int → s_M → rO
  | 0, _, _, _ => none
  | n + 1, x3, x4, S => if x4 < 0 then (chk (rI (x3 + 2)) <| some (0, m_s (m_s (m_s S 26 0 32) 26 1 32) 0 45 (x3 + 2))) else (chk (rI (x4 + 2)) <| chk (0 ≤ x4 ∧ x4 < 184) <| chk (0 ≤ (x4 + 2) ∧ (x4 + 2) < 184) <| chk (rI (x4 + (-1))) <| (A_breaks_l54 N n) x3 (x4 + (-1)) (m_s S 26 (x4 + 2) (S 26 x4)))
theorem A_breaks_l54_e (N : Nat) (n : Nat) (x3 x4 : Int) (S : s_M) : A_breaks_l54 N (n + 1) x3 x4 S = (if x4 < 0 then (chk (rI (x3 + 2)) <| some (0, m_s (m_s (m_s S 26 0 32) 26 1 32) 0 45 (x3 + 2))) else (chk (rI (x4 + 2)) <| chk (0 ≤ x4 ∧ x4 < 184) <| chk (0 ≤ (x4 + 2) ∧ (x4 + 2) < 184) <| chk (rI (x4 + (-1))) <| (A_breaks_l54 N n) x3 (x4 + (-1)) (m_s S 26 (x4 + 2) (S 26 x4)))) := rfl
def A_breaks_l19 (N : Nat) : Nat → Int → Int → Int → s_M → rO
  | 0, _, _, _, _ => none
  | n + 1, x1, x3, x4, S => if x4 < x3 then (chk (rI (x1 + 1)) <| chk (rI ((x1 + 1) + x4)) <| chk (0 ≤ ((x1 + 1) + x4) ∧ ((x1 + 1) + x4) < 184) <| chk (0 ≤ x4 ∧ x4 < 184) <| chk (rI (x4 + 1)) <| (A_breaks_l19 N n) x1 x3 (x4 + 1) (m_s S 26 x4 (S 26 ((x1 + 1) + x4)))) else (chk (rI (x3 - 1)) <| A_breaks_l54 N N x3 (x3 - 1) S)
theorem A_breaks_l19_e (N : Nat) (n : Nat) (x1 x3 x4 : Int) (S : s_M) : A_breaks_l19 N (n + 1) x1 x3 x4 S = (if x4 < x3 then (chk (rI (x1 + 1)) <| chk (rI ((x1 + 1) + x4)) <| chk (0 ≤ ((x1 + 1) + x4) ∧ ((x1 + 1) + x4) < 184) <| chk (0 ≤ x4 ∧ x4 < 184) <| chk (rI (x4 + 1)) <| (A_breaks_l19 N n) x1 x3 (x4 + 1) (m_s S 26 x4 (S 26 ((x1 + 1) + x4)))) else (chk (rI (x3 - 1)) <| A_breaks_l54 N N x3 (x3 - 1) S)) := rfl
def A_breaks (N : Nat) (x1 : Int) (S : s_M) : rO := bnd (A_ends N x1 S) fun v39 S40 => chk (rI ((S 0 45) - x1)) <| chk (rI (((S 0 45) - x1) - 1)) <| A_breaks_l19 N N x1 (((S 0 45) - x1) - 1) 0 S40
theorem A_breaks_e (N : Nat) (x1 : Int) (S : s_M) : A_breaks N x1 S = (bnd (A_ends N x1 S) fun v39 S40 => chk (rI ((S 0 45) - x1)) <| chk (rI (((S 0 45) - x1) - 1)) <| A_breaks_l19 N N x1 (((S 0 45) - x1) - 1) 0 S40) := rfl
set_option maxHeartbeats 4000000 in
set_option maxRecDepth 100000 in
theorem a_breaks (l : Launch) (D : va_G) {sh : s_S} {M0 M : s_M} {sz r x1 : Int} {N : Nat} {S S0 : s_M} {v0 : Int} (h : mq sh M0 M r S) (hx1 : rI x1) (hF : A_breaks N x1 S = some (v0, S0)) : Sp l D y_Model_breaks prog_14_method_82_code 5 none 2 0 0 [vr r, vi x1] sh M sz (fun v' sh' M' sz' => v' = none ∧ sh' = sh ∧ sz' = sz ∧ mq sh M0 M' r S0) := by
  have hr0 := h.1.2.1
  refine Sp.ofGo (own := "CiteForgeModel") (nm := "breaks") (by decide) rfl rfl (Nat.le_of_ble_eq_true rfl) (lv := [(0, vr r), (1, vi x1)]) rfl ?_
  intro g X
  have hL54 : ∀ (n54 : Nat) (x3 x4 : Int) (S1 M1 : s_M), rI x3 → rI x4 → mq sh M0 M1 r S1 → A_breaks_l54 N n54 x3 x4 S1 = some (v0, S0) → Go g 0 0 sh M1 sz 54 [(0, vr r), (3, vi x3), (4, vi x4)] [] := by
    intro n54
    induction n54 with
    | zero => intro x3 x4 S1 M1 hx3 hx4 hm hF; cases hF
    | succ n54 ih54 =>
      intro x3 x4 S1 M1 hx3 hx4 hm hF
      rw [A_breaks_l54_e] at hF
      refine go_iload X d_Model_breaks_54 rfl ?_
      refine go_if_lt (tgt := 81) X d_Model_breaks_56 rfl hx4 (fun hq1 => ?_) (fun hq1 => ?_)
      · skip
        have hF2 := if_t hF hq1
        refine go_aload_n X d_Model_breaks_81 rfl rfl ?_
        refine go_get (v := vr (r + 26)) X f_Model_86 hm.1.1 rfl d_Model_breaks_82 (s_varr (hm.1.2.2 25 _ rfl).2 (by omega)) ?_
        refine go_iconst (v := 0) X d_Model_breaks_85 ?_
        refine go_bipush (v := 32) X d_Model_breaks_86 (by decide) ?_
        refine go_iast (x := 32) X (hm.1.2.2 25 _ rfl).1 (by decide) (by decide) d_Model_breaks_88 ?_
        have md3 : mq sh M0 (m_s M1 (r + 26) 0 32) r (m_s S1 26 0 32) := hm.put (by decide) ((rg_A (by decide) (by decide)))
        generalize m_s M1 (r + 26) 0 32 = M4 at md3 ⊢
        refine go_aload_n X d_Model_breaks_89 rfl rfl ?_
        refine go_get (v := vr (r + 26)) X f_Model_86 md3.1.1 rfl d_Model_breaks_90 (s_varr (md3.1.2.2 25 _ rfl).2 (by omega)) ?_
        refine go_iconst (v := 1) X d_Model_breaks_93 ?_
        refine go_bipush (v := 32) X d_Model_breaks_94 (by decide) ?_
        refine go_iast (x := 32) X (md3.1.2.2 25 _ rfl).1 (by decide) (by decide) d_Model_breaks_96 ?_
        have md5 : mq sh M0 (m_s M4 (r + 26) 1 32) r (m_s (m_s S1 26 0 32) 26 1 32) := md3.put (by decide) ((rg_A (by decide) (by decide)))
        generalize m_s M4 (r + 26) 1 32 = M6 at md5 ⊢
        refine go_aload_n X d_Model_breaks_97 rfl rfl ?_
        refine go_iload_n X d_Model_breaks_98 rfl rfl ?_
        refine go_iconst (v := 2) X d_Model_breaks_99 ?_
        refine go_iadd X d_Model_breaks_100 ?_
        obtain ⟨hc7, hF8⟩ := chk_t hF2
        refine go_put (x := (x3 + 2)) (v := vi (x3 + 2)) X f_Model_316 md5.1.1 rfl d_Model_breaks_101 rfl rfl rfl ?_
        have md9 : mq sh M0 (m_s M6 r 45 (x3 + 2)) r (m_s (m_s (m_s S1 26 0 32) 26 1 32) 0 45 (x3 + 2)) := md5.put0 (by decide) ((rg_S (by decide) (by decide) hc7))
        generalize m_s M6 r 45 (x3 + 2) = M10 at md9 ⊢
        exact go_vret X d_Model_breaks_104 rfl (by decide) (by decide) (ret_v hF8 md9)
      · skip
        have hF11 := if_f hF (Int.not_lt.mpr hq1)
        refine go_aload_n X d_Model_breaks_59 rfl rfl ?_
        refine go_get (v := vr (r + 26)) X f_Model_86 hm.1.1 rfl d_Model_breaks_60 (s_varr (hm.1.2.2 25 _ rfl).2 (by omega)) ?_
        refine go_iload X d_Model_breaks_63 rfl ?_
        refine go_iconst (v := 2) X d_Model_breaks_65 ?_
        refine go_iadd X d_Model_breaks_66 ?_
        obtain ⟨hc12, hF13⟩ := chk_t hF11
        refine go_aload_n X d_Model_breaks_67 rfl rfl ?_
        refine go_get (v := vr (r + 26)) X f_Model_86 hm.1.1 rfl d_Model_breaks_68 (s_varr (hm.1.2.2 25 _ rfl).2 (by omega)) ?_
        refine go_iload X d_Model_breaks_71 rfl ?_
        obtain ⟨hc14, hF15⟩ := chk_t hF13
        refine go_iald X (hm.1.2.2 25 _ rfl).1 (by decide) hc14 d_Model_breaks_73 ?_
        refine go_top (v' := vi (S1 26 x4)) X (congrArg (fun q => vi q) ((hm.a (by decide) x4).trans (rfl))) ?_
        obtain ⟨hc16, hF17⟩ := chk_t hF15
        refine go_iast (x := (S1 26 x4)) X (hm.1.2.2 25 _ rfl).1 (by decide) hc16 d_Model_breaks_74 ?_
        have md18 : mq sh M0 (m_s M1 (r + 26) (x4 + 2) (S1 26 x4)) r (m_s S1 26 (x4 + 2) (S1 26 x4)) := hm.put (by decide) ((rg_A (by decide) (hm.gA (by decide) x4)))
        generalize m_s M1 (r + 26) (x4 + 2) (S1 26 x4) = M19 at md18 ⊢
        obtain ⟨hc20, hF21⟩ := chk_t hF17
        refine go_iinc (v := (-1)) (x := x4) (lv' := [(4, vi (x4 + (-1))), (0, vr r), (3, vi x3)]) X d_Model_breaks_75 rfl (by decide) rfl ?_
        refine go_goto (tgt := 54) X d_Model_breaks_78 rfl ?_
        refine go_lv (lv' := [(0, vr r), (3, vi x3), (4, vi (x4 + (-1)))]) X [1, 2, 0] rfl ?_
        exact ih54 x3 (x4 + (-1)) (m_s S1 26 (x4 + 2) (S1 26 x4)) M19 hx3 hc20 md18 hF21
  have hL19 : ∀ (n19 : Nat) (x1 x3 x4 : Int) (S1 M1 : s_M), rI x1 → rI x3 → rI x4 → mq sh M0 M1 r S1 → A_breaks_l19 N n19 x1 x3 x4 S1 = some (v0, S0) → Go g 0 0 sh M1 sz 19 [(0, vr r), (1, vi x1), (3, vi x3), (4, vi x4)] [] := by
    intro n19
    induction n19 with
    | zero => intro x1 x3 x4 S1 M1 hx1 hx3 hx4 hm hF; cases hF
    | succ n19 ih19 =>
      intro x1 x3 x4 S1 M1 hx1 hx3 hx4 hm hF
      rw [A_breaks_l19_e] at hF
      refine go_iload X d_Model_breaks_19 rfl ?_
      refine go_iload_n X d_Model_breaks_21 rfl rfl ?_
      refine go_icmp_ge (tgt := 49) X d_Model_breaks_22 rfl hx4 hx3 (fun hq22 => ?_) (fun hq22 => ?_)
      · skip
        have hF23 := if_f hF (Int.not_lt.mpr hq22)
        refine go_iload_n X d_Model_breaks_49 rfl rfl ?_
        refine go_iconst (v := 1) X d_Model_breaks_50 ?_
        refine go_isub X d_Model_breaks_51 ?_
        obtain ⟨hc24, hF25⟩ := chk_t hF23
        refine go_istore (lv' := [(4, vi (x3 - 1)), (0, vr r), (1, vi x1), (3, vi x3)]) X d_Model_breaks_52 (by decide) rfl ?_
        refine go_lv (lv' := [(0, vr r), (3, vi x3), (4, vi (x3 - 1))]) X [1, 3, 0] rfl ?_
        exact hL54 N x3 (x3 - 1) S1 M1 hx3 hc24 hm hF25
      · skip
        have hF26 := if_t hF hq22
        refine go_aload_n X d_Model_breaks_25 rfl rfl ?_
        refine go_get (v := vr (r + 26)) X f_Model_86 hm.1.1 rfl d_Model_breaks_26 (s_varr (hm.1.2.2 25 _ rfl).2 (by omega)) ?_
        refine go_iload X d_Model_breaks_29 rfl ?_
        refine go_aload_n X d_Model_breaks_31 rfl rfl ?_
        refine go_get (v := vr (r + 26)) X f_Model_86 hm.1.1 rfl d_Model_breaks_32 (s_varr (hm.1.2.2 25 _ rfl).2 (by omega)) ?_
        refine go_iload_n X d_Model_breaks_35 rfl rfl ?_
        refine go_iconst (v := 1) X d_Model_breaks_36 ?_
        refine go_iadd X d_Model_breaks_37 ?_
        obtain ⟨hc27, hF28⟩ := chk_t hF26
        refine go_iload X d_Model_breaks_38 rfl ?_
        refine go_iadd X d_Model_breaks_40 ?_
        obtain ⟨hc29, hF30⟩ := chk_t hF28
        obtain ⟨hc31, hF32⟩ := chk_t hF30
        refine go_iald X (hm.1.2.2 25 _ rfl).1 (by decide) hc31 d_Model_breaks_41 ?_
        refine go_top (v' := vi (S1 26 ((x1 + 1) + x4))) X (congrArg (fun q => vi q) ((hm.a (by decide) ((x1 + 1) + x4)).trans (rfl))) ?_
        obtain ⟨hc33, hF34⟩ := chk_t hF32
        refine go_iast (x := (S1 26 ((x1 + 1) + x4))) X (hm.1.2.2 25 _ rfl).1 (by decide) hc33 d_Model_breaks_42 ?_
        have md35 : mq sh M0 (m_s M1 (r + 26) x4 (S1 26 ((x1 + 1) + x4))) r (m_s S1 26 x4 (S1 26 ((x1 + 1) + x4))) := hm.put (by decide) ((rg_A (by decide) (hm.gA (by decide) ((x1 + 1) + x4))))
        generalize m_s M1 (r + 26) x4 (S1 26 ((x1 + 1) + x4)) = M36 at md35 ⊢
        obtain ⟨hc37, hF38⟩ := chk_t hF34
        refine go_iinc (v := 1) (x := x4) (lv' := [(4, vi (x4 + 1)), (0, vr r), (1, vi x1), (3, vi x3)]) X d_Model_breaks_43 rfl (by decide) rfl ?_
        refine go_goto (tgt := 19) X d_Model_breaks_46 rfl ?_
        refine go_lv (lv' := [(0, vr r), (1, vi x1), (3, vi x3), (4, vi (x4 + 1))]) X [1, 2, 3, 0] rfl ?_
        exact ih19 x1 x3 (x4 + 1) (m_s S1 26 x4 (S1 26 ((x1 + 1) + x4))) M36 hx1 hx3 hc37 md35 hF38
  rw [A_breaks_e] at hF
  refine go_aload_n X d_Model_breaks_0 rfl rfl ?_
  refine go_get (v := vi (S 0 45)) X f_Model_316 h.1.1 rfl d_Model_breaks_1 (congrArg (s_v .int) ((h.s 45).trans (rfl))) ?_
  refine go_istore_n (lv' := [(2, vi (S 0 45)), (0, vr r), (1, vi x1)]) X d_Model_breaks_4 rfl (by decide) rfl ?_
  refine go_aload_n X d_Model_breaks_5 rfl rfl ?_
  refine go_iload_n X d_Model_breaks_6 rfl rfl ?_
  obtain ⟨v39, S40, hG41, hF42⟩ := bnd_t hF
  refine go_cV (st2 := []) (r := []) X k_Model_319 (a_ends l D h hx1 hG41) h.1.1 rfl rfl (by decide) (Nat.le_of_ble_eq_true rfl) d_Model_breaks_7 (by decide) (by decide) (fun v' sh' M43 sz' hpp => ?_)
  obtain ⟨e1, e2, e3, md44⟩ := hpp
  subst e1
  rw [e2, e3]
  clear e2 e3
  show Go g 0 0 sh M43 sz 10 [(2, vi (S 0 45)), (0, vr r), (1, vi x1)] []
  refine go_iload_n X d_Model_breaks_10 rfl rfl ?_
  refine go_iload_n X d_Model_breaks_11 rfl rfl ?_
  refine go_isub X d_Model_breaks_12 ?_
  obtain ⟨hc46, hF47⟩ := chk_t hF42
  refine go_iconst (v := 1) X d_Model_breaks_13 ?_
  refine go_isub X d_Model_breaks_14 ?_
  obtain ⟨hc48, hF49⟩ := chk_t hF47
  refine go_istore_n (lv' := [(3, vi (((S 0 45) - x1) - 1)), (2, vi (S 0 45)), (0, vr r), (1, vi x1)]) X d_Model_breaks_15 rfl (by decide) rfl ?_
  refine go_iconst (v := 0) X d_Model_breaks_16 ?_
  refine go_istore (lv' := [(4, vi 0), (3, vi (((S 0 45) - x1) - 1)), (2, vi (S 0 45)), (0, vr r), (1, vi x1)]) X d_Model_breaks_17 (by decide) rfl ?_
  refine go_lv (lv' := [(0, vr r), (1, vi x1), (3, vi (((S 0 45) - x1) - 1)), (4, vi 0)]) X [3, 4, 1, 0] rfl ?_
  exact hL19 N x1 (((S 0 45) - x1) - 1) 0 S40 M43 hx1 hc48 (by decide) md44 hF49
def A_putOut_j181 (N : Nat) (S : s_M) : rO := some (0, S)
theorem A_putOut_j181_e (N : Nat) (S : s_M) : A_putOut_j181 N S = (some (0, S)) := rfl
def A_putOut_j178 (N : Nat) (k57 : Int → s_M → rO) (x1 : Int) (S : s_M) : rO := k57 x1 S
theorem A_putOut_j178_e (N : Nat) (k57 : Int → s_M → rO) (x1 : Int) (S : s_M) : A_putOut_j178 N k57 x1 S = (k57 x1 S) := rfl
def A_putOut_l77 (N : Nat) (k57 : Int → s_M → rO) : Nat → Int → Int → Int → s_M → rO
  | 0, _, _, _, _ => none
  | n + 1, x2, x3, x4, S => if x4 < (S 0 45) then (chk (0 ≤ x4 ∧ x4 < 184) <| chk (rI (x4 + 1)) <| (A_putOut_l77 N k57 n) (if (if (S 26 x4) = 32 then (1 : Int) else 0) = 0 then (x2 : Int) else (if x2 < 0 then (x4 : Int) else x2)) (if (if (S 26 x4) = 32 then (1 : Int) else 0) = 0 then (x3 : Int) else (if 30 < x4 then (x3 : Int) else x4)) (x4 + 1) S) else (if (if (if x3 < 0 then (x2 : Int) else x3) < 0 then (0 : Int) else 1) = 0 then (A_putOut_j178 N k57 (if (if x3 < 0 then (x2 : Int) else x3) < 0 then (0 : Int) else 1) S) else (bnd (A_breaks N (if x3 < 0 then (x2 : Int) else x3) S) fun v10 S11 => A_putOut_j178 N k57 (if (if x3 < 0 then (x2 : Int) else x3) < 0 then (0 : Int) else 1) S11))
theorem A_putOut_l77_e (N : Nat) (k57 : Int → s_M → rO) (n : Nat) (x2 x3 x4 : Int) (S : s_M) : A_putOut_l77 N k57 (n + 1) x2 x3 x4 S = (if x4 < (S 0 45) then (chk (0 ≤ x4 ∧ x4 < 184) <| chk (rI (x4 + 1)) <| (A_putOut_l77 N k57 n) (if (if (S 26 x4) = 32 then (1 : Int) else 0) = 0 then (x2 : Int) else (if x2 < 0 then (x4 : Int) else x2)) (if (if (S 26 x4) = 32 then (1 : Int) else 0) = 0 then (x3 : Int) else (if 30 < x4 then (x3 : Int) else x4)) (x4 + 1) S) else (if (if (if x3 < 0 then (x2 : Int) else x3) < 0 then (0 : Int) else 1) = 0 then (A_putOut_j178 N k57 (if (if x3 < 0 then (x2 : Int) else x3) < 0 then (0 : Int) else 1) S) else (bnd (A_breaks N (if x3 < 0 then (x2 : Int) else x3) S) fun v10 S11 => A_putOut_j178 N k57 (if (if x3 < 0 then (x2 : Int) else x3) < 0 then (0 : Int) else 1) S11))) := rfl
def A_putOut_l57 (N : Nat) : Nat → Int → s_M → rO
  | 0, _, _ => none
  | n + 1, x1, S => if x1 = 0 then (A_putOut_j181 N  S) else (if 30 < (S 0 45) then (A_putOut_l77 N (A_putOut_l57 N n) N (-1) (-1) 3 S) else (A_putOut_j181 N  S))
theorem A_putOut_l57_e (N : Nat) (n : Nat) (x1 : Int) (S : s_M) : A_putOut_l57 N (n + 1) x1 S = (if x1 = 0 then (A_putOut_j181 N  S) else (if 30 < (S 0 45) then (A_putOut_l77 N (A_putOut_l57 N n) N (-1) (-1) 3 S) else (A_putOut_j181 N  S))) := rfl
def A_putOut_j55 (N : Nat) (S : s_M) : rO := A_putOut_l57 N N 1 S
theorem A_putOut_j55_e (N : Nat) (S : s_M) : A_putOut_j55 N S = (A_putOut_l57 N N 1 S) := rfl
def A_putOut_l2 (N : Nat) : Nat → Int → s_M → rO
  | 0, _, _ => none
  | n + 1, x1, S => if x1 < (S 3 82) then (if (S 0 45) < 180 then (bnd (A_at N 82 x1 S) fun v42 S43 => chk (0 ≤ (S 0 45) ∧ (S 0 45) < 184) <| chk (rI ((S43 0 45) + 1)) <| chk (rI (x1 + 1)) <| (A_putOut_l2 N n) (x1 + 1) (m_s (m_s S43 26 (S 0 45) v42) 0 45 ((S43 0 45) + 1))) else (A_putOut_j55 N  S)) else (A_putOut_j55 N  S)
theorem A_putOut_l2_e (N : Nat) (n : Nat) (x1 : Int) (S : s_M) : A_putOut_l2 N (n + 1) x1 S = (if x1 < (S 3 82) then (if (S 0 45) < 180 then (bnd (A_at N 82 x1 S) fun v42 S43 => chk (0 ≤ (S 0 45) ∧ (S 0 45) < 184) <| chk (rI ((S43 0 45) + 1)) <| chk (rI (x1 + 1)) <| (A_putOut_l2 N n) (x1 + 1) (m_s (m_s S43 26 (S 0 45) v42) 0 45 ((S43 0 45) + 1))) else (A_putOut_j55 N  S)) else (A_putOut_j55 N  S)) := rfl
def A_putOut (N : Nat) (S : s_M) : rO := A_putOut_l2 N N 0 S
theorem A_putOut_e (N : Nat) (S : s_M) : A_putOut N S = (A_putOut_l2 N N 0 S) := rfl
set_option maxHeartbeats 4000000 in
set_option maxRecDepth 100000 in
theorem a_putOut (l : Launch) (D : va_G) {sh : s_S} {M0 M : s_M} {sz r  : Int} {N : Nat} {S S0 : s_M} {v0 : Int} (h : mq sh M0 M r S) (hF : A_putOut N S = some (v0, S0)) : Sp l D y_Model_putOut prog_14_method_81_code 6 none 3 0 0 [vr r] sh M sz (fun v' sh' M' sz' => v' = none ∧ sh' = sh ∧ sz' = sz ∧ mq sh M0 M' r S0) := by
  have hr0 := h.1.2.1
  refine Sp.ofGo (own := "CiteForgeModel") (nm := "putOut") (by decide) rfl rfl (Nat.le_of_ble_eq_true rfl) (lv := [(0, vr r)]) rfl ?_
  intro g X
  have hJ181 : ∀ (S1 M1 : s_M), mq sh M0 M1 r S1 → A_putOut_j181 N S1 = some (v0, S0) → Go g 0 0 sh M1 sz 181 [(0, vr r)] [] := by
    intro S1 M1 hm hF
    rw [A_putOut_j181_e] at hF
    exact go_vret X d_Model_putOut_181 rfl (by decide) (by decide) (ret_v hF hm)
  have hL57 : ∀ (n57 : Nat) (x1 : Int) (S1 M1 : s_M), rI x1 → mq sh M0 M1 r S1 → A_putOut_l57 N n57 x1 S1 = some (v0, S0) → Go g 0 0 sh M1 sz 57 [(0, vr r), (1, vi x1)] [] := by
    intro n57
    induction n57 with
    | zero => intro x1 S1 M1 hx1 hm hF; cases hF
    | succ n57 ih57 =>
      have hJ178 : ∀ (x1 : Int) (S1 M1 : s_M), rI x1 → mq sh M0 M1 r S1 → A_putOut_j178 N (A_putOut_l57 N n57) x1 S1 = some (v0, S0) → Go g 0 0 sh M1 sz 178 [(0, vr r), (1, vi x1)] [] := by
        intro x1 S1 M1 hx1 hm hF
        rw [A_putOut_j178_e] at hF
        refine go_goto (tgt := 57) X d_Model_putOut_178 rfl ?_
        refine go_lv (lv' := [(0, vr r), (1, vi x1)]) X [0, 1] rfl ?_
        exact ih57 x1 S1 M1 hx1 hm hF
      have hL77 : ∀ (n77 : Nat) (x2 x3 x4 : Int) (S1 M1 : s_M), rI x2 → rI x3 → rI x4 → mq sh M0 M1 r S1 → A_putOut_l77 N (A_putOut_l57 N n57) n77 x2 x3 x4 S1 = some (v0, S0) → Go g 0 0 sh M1 sz 77 [(0, vr r), (2, vi x2), (3, vi x3), (4, vi x4)] [] := by
        intro n77
        induction n77 with
        | zero => intro x2 x3 x4 S1 M1 hx2 hx3 hx4 hm hF; cases hF
        | succ n77 ih77 =>
          intro x2 x3 x4 S1 M1 hx2 hx3 hx4 hm hF
          rw [A_putOut_l77_e] at hF
          refine go_iload X d_Model_putOut_77 rfl ?_
          refine go_aload_n X d_Model_putOut_79 rfl rfl ?_
          refine go_get (v := vi (S1 0 45)) X f_Model_316 hm.1.1 rfl d_Model_putOut_80 (congrArg (s_v .int) ((hm.s 45).trans (rfl))) ?_
          refine go_icmp_ge (tgt := 146) X d_Model_putOut_83 rfl hx4 (hm.gS 45 (by decide) (by decide)) (fun hq1 => ?_) (fun hq1 => ?_)
          · skip
            have hF2 := if_f hF (Int.not_lt.mpr hq1)
            refine go_iload_n X d_Model_putOut_146 rfl rfl ?_
            suffices hv3 : Go g 0 0 sh M1 sz 155 [(0, vr r), (2, vi x2), (3, vi x3), (4, vi x4)] [vi (if x3 < 0 then (x2 : Int) else x3)] by
              refine go_if_ge (tgt := 154) X d_Model_putOut_147 rfl hx3 (fun hq4 => ?_) (fun hq4 => ?_)
              · skip
                refine go_iload_n X d_Model_putOut_154 rfl rfl ?_
                refine go_top (v' := vi (if x3 < 0 then (x2 : Int) else x3)) X (congrArg (fun q => vi q) (show x3 = if x3 < 0 then (x2 : Int) else x3 from ((if_neg (Int.not_lt.mpr hq4))).symm)) ?_
                exact hv3
              · skip
                refine go_iload_n X d_Model_putOut_150 rfl rfl ?_
                refine go_goto (tgt := 155) X d_Model_putOut_151 rfl ?_
                refine go_top (v' := vi (if x3 < 0 then (x2 : Int) else x3)) X (congrArg (fun q => vi q) (show x2 = if x3 < 0 then (x2 : Int) else x3 from ((if_pos hq4)).symm)) ?_
                exact hv3
            refine go_istore (lv' := [(4, vi (if x3 < 0 then (x2 : Int) else x3)), (0, vr r), (2, vi x2), (3, vi x3)]) X d_Model_putOut_155 (by decide) rfl ?_
            refine go_iload X d_Model_putOut_157 rfl ?_
            suffices hv5 : Go g 0 0 sh M1 sz 167 [(4, vi (if x3 < 0 then (x2 : Int) else x3)), (0, vr r), (2, vi x2), (3, vi x3)] [vi (if (if x3 < 0 then (x2 : Int) else x3) < 0 then (0 : Int) else 1)] by
              refine go_if_lt (tgt := 166) X d_Model_putOut_159 rfl (rI_ite hx2 hx3) (fun hq6 => ?_) (fun hq6 => ?_)
              · skip
                refine go_iconst (v := 0) X d_Model_putOut_166 ?_
                refine go_top (v' := vi (if (if x3 < 0 then (x2 : Int) else x3) < 0 then (0 : Int) else 1)) X (congrArg (fun q => vi q) (show 0 = if (if x3 < 0 then (x2 : Int) else x3) < 0 then (0 : Int) else 1 from ((if_pos hq6)).symm)) ?_
                exact hv5
              · skip
                refine go_iconst (v := 1) X d_Model_putOut_162 ?_
                refine go_goto (tgt := 167) X d_Model_putOut_163 rfl ?_
                refine go_top (v' := vi (if (if x3 < 0 then (x2 : Int) else x3) < 0 then (0 : Int) else 1)) X (congrArg (fun q => vi q) (show 1 = if (if x3 < 0 then (x2 : Int) else x3) < 0 then (0 : Int) else 1 from ((if_neg (Int.not_lt.mpr hq6))).symm)) ?_
                exact hv5
            refine go_istore_n (lv' := [(1, vi (if (if x3 < 0 then (x2 : Int) else x3) < 0 then (0 : Int) else 1)), (4, vi (if x3 < 0 then (x2 : Int) else x3)), (0, vr r), (2, vi x2), (3, vi x3)]) X d_Model_putOut_167 rfl (by decide) rfl ?_
            refine go_iload_n X d_Model_putOut_168 rfl rfl ?_
            refine go_if_eq (tgt := 178) X d_Model_putOut_169 rfl (rI_ite (by decide) (by decide)) (fun hq7 => ?_) (fun hq7 => ?_)
            · skip
              have hF8 := if_t hF2 hq7
              refine go_lv (lv' := [(0, vr r), (1, vi (if (if x3 < 0 then (x2 : Int) else x3) < 0 then (0 : Int) else 1))]) X [2, 0] rfl ?_
              exact hJ178 (if (if x3 < 0 then (x2 : Int) else x3) < 0 then (0 : Int) else 1) S1 M1 (rI_ite (by decide) (by decide)) hm hF8
            · skip
              have hF9 := if_f hF2 hq7
              refine go_aload_n X d_Model_putOut_172 rfl rfl ?_
              refine go_iload X d_Model_putOut_173 rfl ?_
              obtain ⟨v10, S11, hG12, hF13⟩ := bnd_t hF9
              refine go_cV (st2 := []) (r := []) X k_Model_380 (a_breaks l D hm (rI_ite hx2 hx3) hG12) hm.1.1 rfl rfl (by decide) (Nat.le_of_ble_eq_true rfl) d_Model_putOut_175 (by decide) (by decide) (fun v' sh' M14 sz' hpp => ?_)
              obtain ⟨e1, e2, e3, md15⟩ := hpp
              subst e1
              rw [e2, e3]
              clear e2 e3
              show Go g 0 0 sh M14 sz 178 [(1, vi (if (if x3 < 0 then (x2 : Int) else x3) < 0 then (0 : Int) else 1)), (4, vi (if x3 < 0 then (x2 : Int) else x3)), (0, vr r), (2, vi x2), (3, vi x3)] []
              refine go_lv (lv' := [(0, vr r), (1, vi (if (if x3 < 0 then (x2 : Int) else x3) < 0 then (0 : Int) else 1))]) X [2, 0] rfl ?_
              exact hJ178 (if (if x3 < 0 then (x2 : Int) else x3) < 0 then (0 : Int) else 1) S11 M14 (rI_ite (by decide) (by decide)) md15 hF13
          · skip
            have hF17 := if_t hF hq1
            refine go_aload_n X d_Model_putOut_86 rfl rfl ?_
            refine go_get (v := vr (r + 26)) X f_Model_86 hm.1.1 rfl d_Model_putOut_87 (s_varr (hm.1.2.2 25 _ rfl).2 (by omega)) ?_
            refine go_iload X d_Model_putOut_90 rfl ?_
            obtain ⟨hc18, hF19⟩ := chk_t hF17
            refine go_iald X (hm.1.2.2 25 _ rfl).1 (by decide) hc18 d_Model_putOut_92 ?_
            refine go_top (v' := vi (S1 26 x4)) X (congrArg (fun q => vi q) ((hm.a (by decide) x4).trans (rfl))) ?_
            refine go_bipush (v := 32) X d_Model_putOut_93 (by decide) ?_
            suffices hv20 : Go g 0 0 sh M1 sz 103 [(0, vr r), (2, vi x2), (3, vi x3), (4, vi x4)] [vi (if (S1 26 x4) = 32 then (1 : Int) else 0)] by
              refine go_icmp_ne (tgt := 102) X d_Model_putOut_95 rfl (hm.gA (by decide) x4) (by decide) (fun hq21 => ?_) (fun hq21 => ?_)
              · skip
                refine go_iconst (v := 0) X d_Model_putOut_102 ?_
                refine go_top (v' := vi (if (S1 26 x4) = 32 then (1 : Int) else 0)) X (congrArg (fun q => vi q) (show 0 = if (S1 26 x4) = 32 then (1 : Int) else 0 from ((if_neg hq21)).symm)) ?_
                exact hv20
              · skip
                refine go_iconst (v := 1) X d_Model_putOut_98 ?_
                refine go_goto (tgt := 103) X d_Model_putOut_99 rfl ?_
                refine go_top (v' := vi (if (S1 26 x4) = 32 then (1 : Int) else 0)) X (congrArg (fun q => vi q) (show 1 = if (S1 26 x4) = 32 then (1 : Int) else 0 from ((if_pos hq21)).symm)) ?_
                exact hv20
            refine go_istore (lv' := [(5, vi (if (S1 26 x4) = 32 then (1 : Int) else 0)), (0, vr r), (2, vi x2), (3, vi x3), (4, vi x4)]) X d_Model_putOut_103 (by decide) rfl ?_
            refine go_iload X d_Model_putOut_105 rfl ?_
            suffices hv22 : Go g 0 0 sh M1 sz 120 [(5, vi (if (S1 26 x4) = 32 then (1 : Int) else 0)), (0, vr r), (2, vi x2), (3, vi x3), (4, vi x4)] [vi (if (if (S1 26 x4) = 32 then (1 : Int) else 0) = 0 then (x2 : Int) else (if x2 < 0 then (x4 : Int) else x2))] by
              refine go_if_eq (tgt := 119) X d_Model_putOut_107 rfl (rI_ite (by decide) (by decide)) (fun hq23 => ?_) (fun hq23 => ?_)
              · skip
                refine go_iload_n X d_Model_putOut_119 rfl rfl ?_
                refine go_top (v' := vi (if (if (S1 26 x4) = 32 then (1 : Int) else 0) = 0 then (x2 : Int) else (if x2 < 0 then (x4 : Int) else x2))) X (congrArg (fun q => vi q) (show x2 = if (if (S1 26 x4) = 32 then (1 : Int) else 0) = 0 then (x2 : Int) else (if x2 < 0 then (x4 : Int) else x2) from ((if_pos hq23)).symm)) ?_
                exact hv22
              · skip
                refine go_iload_n X d_Model_putOut_110 rfl rfl ?_
                refine go_if_ge (tgt := 119) X d_Model_putOut_111 rfl hx2 (fun hq24 => ?_) (fun hq24 => ?_)
                · skip
                  refine go_iload_n X d_Model_putOut_119 rfl rfl ?_
                  refine go_top (v' := vi (if (if (S1 26 x4) = 32 then (1 : Int) else 0) = 0 then (x2 : Int) else (if x2 < 0 then (x4 : Int) else x2))) X (congrArg (fun q => vi q) (show x2 = if (if (S1 26 x4) = 32 then (1 : Int) else 0) = 0 then (x2 : Int) else (if x2 < 0 then (x4 : Int) else x2) from ((if_neg hq23).trans ((if_neg (Int.not_lt.mpr hq24)))).symm)) ?_
                  exact hv22
                · skip
                  refine go_iload X d_Model_putOut_114 rfl ?_
                  refine go_goto (tgt := 120) X d_Model_putOut_116 rfl ?_
                  refine go_top (v' := vi (if (if (S1 26 x4) = 32 then (1 : Int) else 0) = 0 then (x2 : Int) else (if x2 < 0 then (x4 : Int) else x2))) X (congrArg (fun q => vi q) (show x4 = if (if (S1 26 x4) = 32 then (1 : Int) else 0) = 0 then (x2 : Int) else (if x2 < 0 then (x4 : Int) else x2) from ((if_neg hq23).trans ((if_pos hq24))).symm)) ?_
                  exact hv22
            refine go_istore_n (lv' := [(2, vi (if (if (S1 26 x4) = 32 then (1 : Int) else 0) = 0 then (x2 : Int) else (if x2 < 0 then (x4 : Int) else x2))), (5, vi (if (S1 26 x4) = 32 then (1 : Int) else 0)), (0, vr r), (3, vi x3), (4, vi x4)]) X d_Model_putOut_120 rfl (by decide) rfl ?_
            refine go_iload X d_Model_putOut_121 rfl ?_
            suffices hv25 : Go g 0 0 sh M1 sz 139 [(2, vi (if (if (S1 26 x4) = 32 then (1 : Int) else 0) = 0 then (x2 : Int) else (if x2 < 0 then (x4 : Int) else x2))), (5, vi (if (S1 26 x4) = 32 then (1 : Int) else 0)), (0, vr r), (3, vi x3), (4, vi x4)] [vi (if (if (S1 26 x4) = 32 then (1 : Int) else 0) = 0 then (x3 : Int) else (if 30 < x4 then (x3 : Int) else x4))] by
              refine go_if_eq (tgt := 138) X d_Model_putOut_123 rfl (rI_ite (by decide) (by decide)) (fun hq26 => ?_) (fun hq26 => ?_)
              · skip
                refine go_iload_n X d_Model_putOut_138 rfl rfl ?_
                refine go_top (v' := vi (if (if (S1 26 x4) = 32 then (1 : Int) else 0) = 0 then (x3 : Int) else (if 30 < x4 then (x3 : Int) else x4))) X (congrArg (fun q => vi q) (show x3 = if (if (S1 26 x4) = 32 then (1 : Int) else 0) = 0 then (x3 : Int) else (if 30 < x4 then (x3 : Int) else x4) from ((if_pos hq26)).symm)) ?_
                exact hv25
              · skip
                refine go_iload X d_Model_putOut_126 rfl ?_
                refine go_bipush (v := 30) X d_Model_putOut_128 (by decide) ?_
                refine go_icmp_gt (tgt := 138) X d_Model_putOut_130 rfl hx4 (by decide) (fun hq27 => ?_) (fun hq27 => ?_)
                · skip
                  refine go_iload_n X d_Model_putOut_138 rfl rfl ?_
                  refine go_top (v' := vi (if (if (S1 26 x4) = 32 then (1 : Int) else 0) = 0 then (x3 : Int) else (if 30 < x4 then (x3 : Int) else x4))) X (congrArg (fun q => vi q) (show x3 = if (if (S1 26 x4) = 32 then (1 : Int) else 0) = 0 then (x3 : Int) else (if 30 < x4 then (x3 : Int) else x4) from ((if_neg hq26).trans ((if_pos hq27))).symm)) ?_
                  exact hv25
                · skip
                  refine go_iload X d_Model_putOut_133 rfl ?_
                  refine go_goto (tgt := 139) X d_Model_putOut_135 rfl ?_
                  refine go_top (v' := vi (if (if (S1 26 x4) = 32 then (1 : Int) else 0) = 0 then (x3 : Int) else (if 30 < x4 then (x3 : Int) else x4))) X (congrArg (fun q => vi q) (show x4 = if (if (S1 26 x4) = 32 then (1 : Int) else 0) = 0 then (x3 : Int) else (if 30 < x4 then (x3 : Int) else x4) from ((if_neg hq26).trans ((if_neg (Int.not_lt.mpr hq27)))).symm)) ?_
                  exact hv25
            refine go_istore_n (lv' := [(3, vi (if (if (S1 26 x4) = 32 then (1 : Int) else 0) = 0 then (x3 : Int) else (if 30 < x4 then (x3 : Int) else x4))), (2, vi (if (if (S1 26 x4) = 32 then (1 : Int) else 0) = 0 then (x2 : Int) else (if x2 < 0 then (x4 : Int) else x2))), (5, vi (if (S1 26 x4) = 32 then (1 : Int) else 0)), (0, vr r), (4, vi x4)]) X d_Model_putOut_139 rfl (by decide) rfl ?_
            obtain ⟨hc28, hF29⟩ := chk_t hF19
            refine go_iinc (v := 1) (x := x4) (lv' := [(4, vi (x4 + 1)), (3, vi (if (if (S1 26 x4) = 32 then (1 : Int) else 0) = 0 then (x3 : Int) else (if 30 < x4 then (x3 : Int) else x4))), (2, vi (if (if (S1 26 x4) = 32 then (1 : Int) else 0) = 0 then (x2 : Int) else (if x2 < 0 then (x4 : Int) else x2))), (5, vi (if (S1 26 x4) = 32 then (1 : Int) else 0)), (0, vr r)]) X d_Model_putOut_140 rfl (by decide) rfl ?_
            refine go_goto (tgt := 77) X d_Model_putOut_143 rfl ?_
            refine go_lv (lv' := [(0, vr r), (2, vi (if (if (S1 26 x4) = 32 then (1 : Int) else 0) = 0 then (x2 : Int) else (if x2 < 0 then (x4 : Int) else x2))), (3, vi (if (if (S1 26 x4) = 32 then (1 : Int) else 0) = 0 then (x3 : Int) else (if 30 < x4 then (x3 : Int) else x4))), (4, vi (x4 + 1))]) X [4, 2, 1, 0] rfl ?_
            exact ih77 (if (if (S1 26 x4) = 32 then (1 : Int) else 0) = 0 then (x2 : Int) else (if x2 < 0 then (x4 : Int) else x2)) (if (if (S1 26 x4) = 32 then (1 : Int) else 0) = 0 then (x3 : Int) else (if 30 < x4 then (x3 : Int) else x4)) (x4 + 1) S1 M1 (rI_ite hx2 (rI_ite hx4 hx2)) (rI_ite hx3 (rI_ite hx3 hx4)) hc28 hm hF29
      intro x1 S1 M1 hx1 hm hF
      rw [A_putOut_l57_e] at hF
      refine go_iload_n X d_Model_putOut_57 rfl rfl ?_
      refine go_if_eq (tgt := 181) X d_Model_putOut_58 rfl hx1 (fun hq30 => ?_) (fun hq30 => ?_)
      · skip
        have hF31 := if_t hF hq30
        refine go_lv (lv' := [(0, vr r)]) X [0] rfl ?_
        exact hJ181  S1 M1  hm hF31
      · skip
        have hF32 := if_f hF hq30
        refine go_aload_n X d_Model_putOut_61 rfl rfl ?_
        refine go_get (v := vi (S1 0 45)) X f_Model_316 hm.1.1 rfl d_Model_putOut_62 (congrArg (s_v .int) ((hm.s 45).trans (rfl))) ?_
        refine go_bipush (v := 30) X d_Model_putOut_65 (by decide) ?_
        refine go_icmp_le (tgt := 181) X d_Model_putOut_67 rfl (hm.gS 45 (by decide) (by decide)) (by decide) (fun hq33 => ?_) (fun hq33 => ?_)
        · skip
          have hF34 := if_f hF32 (Int.not_lt.mpr hq33)
          refine go_lv (lv' := [(0, vr r)]) X [0] rfl ?_
          exact hJ181  S1 M1  hm hF34
        · skip
          have hF35 := if_t hF32 hq33
          refine go_iconst (v := (-1)) X d_Model_putOut_70 ?_
          refine go_istore_n (lv' := [(2, vi (-1)), (0, vr r), (1, vi x1)]) X d_Model_putOut_71 rfl (by decide) rfl ?_
          refine go_iconst (v := (-1)) X d_Model_putOut_72 ?_
          refine go_istore_n (lv' := [(3, vi (-1)), (2, vi (-1)), (0, vr r), (1, vi x1)]) X d_Model_putOut_73 rfl (by decide) rfl ?_
          refine go_iconst (v := 3) X d_Model_putOut_74 ?_
          refine go_istore (lv' := [(4, vi 3), (3, vi (-1)), (2, vi (-1)), (0, vr r), (1, vi x1)]) X d_Model_putOut_75 (by decide) rfl ?_
          refine go_lv (lv' := [(0, vr r), (2, vi (-1)), (3, vi (-1)), (4, vi 3)]) X [3, 2, 1, 0] rfl ?_
          exact hL77 N (-1) (-1) 3 S1 M1 (by decide) (by decide) (by decide) hm hF35
  have hJ55 : ∀ (S1 M1 : s_M), mq sh M0 M1 r S1 → A_putOut_j55 N S1 = some (v0, S0) → Go g 0 0 sh M1 sz 55 [(0, vr r)] [] := by
    intro S1 M1 hm hF
    rw [A_putOut_j55_e] at hF
    refine go_iconst (v := 1) X d_Model_putOut_55 ?_
    refine go_istore_n (lv' := [(1, vi 1), (0, vr r)]) X d_Model_putOut_56 rfl (by decide) rfl ?_
    refine go_lv (lv' := [(0, vr r), (1, vi 1)]) X [1, 0] rfl ?_
    exact hL57 N 1 S1 M1 (by decide) hm hF
  have hL2 : ∀ (n2 : Nat) (x1 : Int) (S1 M1 : s_M), rI x1 → mq sh M0 M1 r S1 → A_putOut_l2 N n2 x1 S1 = some (v0, S0) → Go g 0 0 sh M1 sz 2 [(0, vr r), (1, vi x1)] [] := by
    intro n2
    induction n2 with
    | zero => intro x1 S1 M1 hx1 hm hF; cases hF
    | succ n2 ih2 =>
      intro x1 S1 M1 hx1 hm hF
      rw [A_putOut_l2_e] at hF
      refine go_iload_n X d_Model_putOut_2 rfl rfl ?_
      refine go_aload_n X d_Model_putOut_3 rfl rfl ?_
      refine go_get (v := vr (r + 3)) X f_Model_16 hm.1.1 rfl d_Model_putOut_4 (s_varr (hm.1.2.2 2 _ rfl).2 (by omega)) ?_
      refine go_bipush (v := 82) X d_Model_putOut_7 (by decide) ?_
      refine go_iald X (hm.1.2.2 2 _ rfl).1 (by decide) (by decide) d_Model_putOut_9 ?_
      refine go_top (v' := vi (S1 3 82)) X (congrArg (fun q => vi q) ((hm.a (by decide) 82).trans (rfl))) ?_
      refine go_icmp_ge (tgt := 55) X d_Model_putOut_10 rfl hx1 (hm.gA (by decide) 82) (fun hq36 => ?_) (fun hq36 => ?_)
      · skip
        have hF37 := if_f hF (Int.not_lt.mpr hq36)
        refine go_lv (lv' := [(0, vr r)]) X [0] rfl ?_
        exact hJ55  S1 M1  hm hF37
      · skip
        have hF38 := if_t hF hq36
        refine go_aload_n X d_Model_putOut_13 rfl rfl ?_
        refine go_get (v := vi (S1 0 45)) X f_Model_316 hm.1.1 rfl d_Model_putOut_14 (congrArg (s_v .int) ((hm.s 45).trans (rfl))) ?_
        refine go_sipush (v := 180) X d_Model_putOut_17 (by decide) ?_
        refine go_icmp_ge (tgt := 55) X d_Model_putOut_20 rfl (hm.gS 45 (by decide) (by decide)) (by decide) (fun hq39 => ?_) (fun hq39 => ?_)
        · skip
          have hF40 := if_f hF38 (Int.not_lt.mpr hq39)
          refine go_lv (lv' := [(0, vr r)]) X [0] rfl ?_
          exact hJ55  S1 M1  hm hF40
        · skip
          have hF41 := if_t hF38 hq39
          refine go_aload_n X d_Model_putOut_23 rfl rfl ?_
          refine go_get (v := vr (r + 26)) X f_Model_86 hm.1.1 rfl d_Model_putOut_24 (s_varr (hm.1.2.2 25 _ rfl).2 (by omega)) ?_
          refine go_aload_n X d_Model_putOut_27 rfl rfl ?_
          refine go_get (v := vi (S1 0 45)) X f_Model_316 hm.1.1 rfl d_Model_putOut_28 (congrArg (s_v .int) ((hm.s 45).trans (rfl))) ?_
          refine go_aload_n X d_Model_putOut_31 rfl rfl ?_
          refine go_bipush (v := 82) X d_Model_putOut_32 (by decide) ?_
          refine go_iload_n X d_Model_putOut_34 rfl rfl ?_
          obtain ⟨v42, S43, hG44, hF45⟩ := bnd_t hF41
          refine go_cV (st2 := []) (r := [vi (S1 0 45), vr (r + 26)]) X k_Model_99 (a_at l D hm (by decide) hx1 hG44) hm.1.1 rfl rfl (by decide) (Nat.le_of_ble_eq_true rfl) d_Model_putOut_35 (by decide) (by decide) (fun v' sh' M46 sz' hpp => ?_)
          obtain ⟨e1, e2, e3, hv48, md47⟩ := hpp
          subst e1
          rw [e2, e3]
          clear e2 e3
          show Go g 0 0 sh M46 sz 38 [(0, vr r), (1, vi x1)] [vi v42, vi (S1 0 45), vr (r + 26)]
          obtain ⟨hc49, hF50⟩ := chk_t hF45
          refine go_iast (x := v42) X (md47.1.2.2 25 _ rfl).1 (by decide) hc49 d_Model_putOut_38 ?_
          have md51 : mq sh M0 (m_s M46 (r + 26) (S1 0 45) v42) r (m_s S43 26 (S1 0 45) v42) := md47.put (by decide) ((rg_A (by decide) hv48))
          generalize m_s M46 (r + 26) (S1 0 45) v42 = M52 at md51 ⊢
          refine go_aload_n X d_Model_putOut_39 rfl rfl ?_
          refine go_dup X d_Model_putOut_40 rfl ?_
          refine go_get (v := vi (S43 0 45)) X f_Model_316 md51.1.1 rfl d_Model_putOut_41 (congrArg (s_v .int) ((md51.s 45).trans ((m_sk (by decide)).trans (rfl)))) ?_
          refine go_iconst (v := 1) X d_Model_putOut_44 ?_
          refine go_iadd X d_Model_putOut_45 ?_
          obtain ⟨hc53, hF54⟩ := chk_t hF50
          refine go_put (x := ((S43 0 45) + 1)) (v := vi ((S43 0 45) + 1)) X f_Model_316 md51.1.1 rfl d_Model_putOut_46 rfl rfl rfl ?_
          have md55 : mq sh M0 (m_s M52 r 45 ((S43 0 45) + 1)) r (m_s (m_s S43 26 (S1 0 45) v42) 0 45 ((S43 0 45) + 1)) := md51.put0 (by decide) ((rg_S (by decide) (by decide) hc53))
          generalize m_s M52 r 45 ((S43 0 45) + 1) = M56 at md55 ⊢
          obtain ⟨hc57, hF58⟩ := chk_t hF54
          refine go_iinc (v := 1) (x := x1) (lv' := [(1, vi (x1 + 1)), (0, vr r)]) X d_Model_putOut_49 rfl (by decide) rfl ?_
          refine go_goto (tgt := 2) X d_Model_putOut_52 rfl ?_
          refine go_lv (lv' := [(0, vr r), (1, vi (x1 + 1))]) X [1, 0] rfl ?_
          exact ih2 (x1 + 1) (m_s (m_s S43 26 (S1 0 45) v42) 0 45 ((S43 0 45) + 1)) M56 hc57 md55 hF58
  rw [A_putOut_e] at hF
  refine go_iconst (v := 0) X d_Model_putOut_0 ?_
  refine go_istore_n (lv' := [(1, vi 0), (0, vr r)]) X d_Model_putOut_1 rfl (by decide) rfl ?_
  refine go_lv (lv' := [(0, vr r), (1, vi 0)]) X [1, 0] rfl ?_
  exact hL2 N 0 S M (by decide) h hF
def A_taken_j72 (N : Nat) (S : s_M) : rO := some (0, S)
theorem A_taken_j72_e (N : Nat) (S : s_M) : A_taken_j72 N S = (some (0, S)) := rfl
def A_taken_j54 (N : Nat) (S : s_M) : rO := chk (0 ≤ (S 0 26) ∧ (S 0 26) < 12) <| if (S 16 (S 0 26)) = 0 then (bnd (A_warn N 7 S) fun v6 S7 => A_taken_j72 N  S7) else (A_taken_j72 N  S)
theorem A_taken_j54_e (N : Nat) (S : s_M) : A_taken_j54 N S = (chk (0 ≤ (S 0 26) ∧ (S 0 26) < 12) <| if (S 16 (S 0 26)) = 0 then (bnd (A_warn N 7 S) fun v6 S7 => A_taken_j72 N  S7) else (A_taken_j72 N  S)) := rfl
def A_taken (N : Nat) (x1 : Int) (S : s_M) : rO := bnd (A_clearText N x1 S) fun v13 S14 => if (S14 0 26) = 0 then (bnd (A_warn N 7 S14) fun v41 S42 => some (0, S42)) else (chk (rI ((S14 0 26) - 1)) <| chk (0 ≤ ((S14 0 26) - 1) ∧ ((S14 0 26) - 1) < 12) <| if (S14 16 ((S14 0 26) - 1)) = 1 then (chk (rI (70 + ((S14 0 26) - 1))) <| bnd (A_copy N (70 + ((S14 0 26) - 1)) x1 (m_s S14 0 26 ((S14 0 26) - 1))) fun v33 S34 => A_taken_j54 N  S34) else (A_taken_j54 N  (m_s S14 0 26 ((S14 0 26) - 1))))
theorem A_taken_e (N : Nat) (x1 : Int) (S : s_M) : A_taken N x1 S = (bnd (A_clearText N x1 S) fun v13 S14 => if (S14 0 26) = 0 then (bnd (A_warn N 7 S14) fun v41 S42 => some (0, S42)) else (chk (rI ((S14 0 26) - 1)) <| chk (0 ≤ ((S14 0 26) - 1) ∧ ((S14 0 26) - 1) < 12) <| if (S14 16 ((S14 0 26) - 1)) = 1 then (chk (rI (70 + ((S14 0 26) - 1))) <| bnd (A_copy N (70 + ((S14 0 26) - 1)) x1 (m_s S14 0 26 ((S14 0 26) - 1))) fun v33 S34 => A_taken_j54 N  S34) else (A_taken_j54 N  (m_s S14 0 26 ((S14 0 26) - 1))))) := rfl
set_option maxHeartbeats 4000000 in
set_option maxRecDepth 100000 in
theorem a_taken (l : Launch) (D : va_G) {sh : s_S} {M0 M : s_M} {sz r x1 : Int} {N : Nat} {S S0 : s_M} {v0 : Int} (h : mq sh M0 M r S) (hx1 : rI x1) (hF : A_taken N x1 S = some (v0, S0)) : Sp l D y_Model_taken prog_14_method_54_code 2 none 3 0 0 [vr r, vi x1] sh M sz (fun v' sh' M' sz' => v' = none ∧ sh' = sh ∧ sz' = sz ∧ mq sh M0 M' r S0) := by
  have hr0 := h.1.2.1
  refine Sp.ofGo (own := "CiteForgeModel") (nm := "taken") (by decide) rfl rfl (Nat.le_of_ble_eq_true rfl) (lv := [(0, vr r), (1, vi x1)]) rfl ?_
  intro g X
  have hJ72 : ∀ (S1 M1 : s_M), mq sh M0 M1 r S1 → A_taken_j72 N S1 = some (v0, S0) → Go g 0 0 sh M1 sz 72 [(0, vr r)] [] := by
    intro S1 M1 hm hF
    rw [A_taken_j72_e] at hF
    exact go_vret X d_Model_taken_72 rfl (by decide) (by decide) (ret_v hF hm)
  have hJ54 : ∀ (S1 M1 : s_M), mq sh M0 M1 r S1 → A_taken_j54 N S1 = some (v0, S0) → Go g 0 0 sh M1 sz 54 [(0, vr r)] [] := by
    intro S1 M1 hm hF
    rw [A_taken_j54_e] at hF
    refine go_aload_n X d_Model_taken_54 rfl rfl ?_
    refine go_get (v := vr (r + 16)) X f_Model_56 hm.1.1 rfl d_Model_taken_55 (s_varr (hm.1.2.2 15 _ rfl).2 (by omega)) ?_
    refine go_aload_n X d_Model_taken_58 rfl rfl ?_
    refine go_get (v := vi (S1 0 26)) X f_Model_250 hm.1.1 rfl d_Model_taken_59 (congrArg (s_v .int) ((hm.s 26).trans (rfl))) ?_
    obtain ⟨hc1, hF2⟩ := chk_t hF
    refine go_iald X (hm.1.2.2 15 _ rfl).1 (by decide) hc1 d_Model_taken_62 ?_
    refine go_top (v' := vi (S1 16 (S1 0 26))) X (congrArg (fun q => vi q) ((hm.a (by decide) (S1 0 26)).trans (rfl))) ?_
    refine go_if_ne (tgt := 72) X d_Model_taken_63 rfl (hm.gA (by decide) (S1 0 26)) (fun hq3 => ?_) (fun hq3 => ?_)
    · skip
      have hF4 := if_f hF2 hq3
      refine go_lv (lv' := [(0, vr r)]) X [0] rfl ?_
      exact hJ72  S1 M1  hm hF4
    · skip
      have hF5 := if_t hF2 hq3
      refine go_aload_n X d_Model_taken_66 rfl rfl ?_
      refine go_bipush (v := 7) X d_Model_taken_67 (by decide) ?_
      obtain ⟨v6, S7, hG8, hF9⟩ := bnd_t hF5
      refine go_cV (st2 := []) (r := []) X k_Model_144 (a_warn l D hm (by decide) hG8) hm.1.1 rfl rfl (by decide) (Nat.le_of_ble_eq_true rfl) d_Model_taken_69 (by decide) (by decide) (fun v' sh' M10 sz' hpp => ?_)
      obtain ⟨e1, e2, e3, md11⟩ := hpp
      subst e1
      rw [e2, e3]
      clear e2 e3
      show Go g 0 0 sh M10 sz 72 [(0, vr r)] []
      refine go_lv (lv' := [(0, vr r)]) X [0] rfl ?_
      exact hJ72  S7 M10  md11 hF9
  rw [A_taken_e] at hF
  refine go_aload_n X d_Model_taken_0 rfl rfl ?_
  refine go_iload_n X d_Model_taken_1 rfl rfl ?_
  obtain ⟨v13, S14, hG15, hF16⟩ := bnd_t hF
  refine go_cV (st2 := []) (r := []) X k_Model_120 (a_clearText l D h hx1 hG15) h.1.1 rfl rfl (by decide) (Nat.le_of_ble_eq_true rfl) d_Model_taken_2 (by decide) (by decide) (fun v' sh' M17 sz' hpp => ?_)
  obtain ⟨e1, e2, e3, md18⟩ := hpp
  subst e1
  rw [e2, e3]
  clear e2 e3
  show Go g 0 0 sh M17 sz 5 [(0, vr r), (1, vi x1)] []
  refine go_aload_n X d_Model_taken_5 rfl rfl ?_
  refine go_get (v := vi (S14 0 26)) X f_Model_250 md18.1.1 rfl d_Model_taken_6 (congrArg (s_v .int) ((md18.s 26).trans (rfl))) ?_
  refine go_if_ne (tgt := 19) X d_Model_taken_9 rfl (md18.gS 26 (by decide) (by decide)) (fun hq20 => ?_) (fun hq20 => ?_)
  · skip
    have hF21 := if_f hF16 hq20
    refine go_aload_n X d_Model_taken_19 rfl rfl ?_
    refine go_dup X d_Model_taken_20 rfl ?_
    refine go_get (v := vi (S14 0 26)) X f_Model_250 md18.1.1 rfl d_Model_taken_21 (congrArg (s_v .int) ((md18.s 26).trans (rfl))) ?_
    refine go_iconst (v := 1) X d_Model_taken_24 ?_
    refine go_isub X d_Model_taken_25 ?_
    obtain ⟨hc22, hF23⟩ := chk_t hF21
    refine go_put (x := ((S14 0 26) - 1)) (v := vi ((S14 0 26) - 1)) X f_Model_250 md18.1.1 rfl d_Model_taken_26 rfl rfl rfl ?_
    have md24 : mq sh M0 (m_s M17 r 26 ((S14 0 26) - 1)) r (m_s S14 0 26 ((S14 0 26) - 1)) := md18.put0 (by decide) ((rg_S (by decide) (by decide) hc22))
    generalize m_s M17 r 26 ((S14 0 26) - 1) = M25 at md24 ⊢
    refine go_aload_n X d_Model_taken_29 rfl rfl ?_
    refine go_get (v := vr (r + 16)) X f_Model_56 md24.1.1 rfl d_Model_taken_30 (s_varr (md24.1.2.2 15 _ rfl).2 (by omega)) ?_
    refine go_aload_n X d_Model_taken_33 rfl rfl ?_
    refine go_get (v := vi ((S14 0 26) - 1)) X f_Model_250 md24.1.1 rfl d_Model_taken_34 (congrArg (s_v .int) ((md24.s 26).trans (m_s_s))) ?_
    obtain ⟨hc26, hF27⟩ := chk_t hF23
    refine go_iald X (md24.1.2.2 15 _ rfl).1 (by decide) hc26 d_Model_taken_37 ?_
    refine go_top (v' := vi (S14 16 ((S14 0 26) - 1))) X (congrArg (fun q => vi q) ((md24.a (by decide) ((S14 0 26) - 1)).trans ((m_sk (by decide)).trans (rfl)))) ?_
    refine go_iconst (v := 1) X d_Model_taken_38 ?_
    refine go_icmp_ne (tgt := 54) X d_Model_taken_39 rfl (rI_eq (md24.gA (by decide) ((S14 0 26) - 1)) ((m_sk (by decide)).trans (rfl))) (by decide) (fun hq28 => ?_) (fun hq28 => ?_)
    · skip
      have hF29 := if_f hF27 hq28
      refine go_lv (lv' := [(0, vr r)]) X [0] rfl ?_
      exact hJ54  (m_s S14 0 26 ((S14 0 26) - 1)) M25  md24 hF29
    · skip
      have hF30 := if_t hF27 hq28
      refine go_aload_n X d_Model_taken_42 rfl rfl ?_
      refine go_bipush (v := 70) X d_Model_taken_43 (by decide) ?_
      refine go_aload_n X d_Model_taken_45 rfl rfl ?_
      refine go_get (v := vi ((S14 0 26) - 1)) X f_Model_250 md24.1.1 rfl d_Model_taken_46 (congrArg (s_v .int) ((md24.s 26).trans (m_s_s))) ?_
      refine go_iadd X d_Model_taken_49 ?_
      obtain ⟨hc31, hF32⟩ := chk_t hF30
      refine go_iload_n X d_Model_taken_50 rfl rfl ?_
      obtain ⟨v33, S34, hG35, hF36⟩ := bnd_t hF32
      refine go_cV (st2 := []) (r := []) X k_Model_194 (a_copy l D md24 hc31 hx1 hG35) md24.1.1 rfl rfl (by decide) (Nat.le_of_ble_eq_true rfl) d_Model_taken_51 (by decide) (by decide) (fun v' sh' M37 sz' hpp => ?_)
      obtain ⟨e1, e2, e3, md38⟩ := hpp
      subst e1
      rw [e2, e3]
      clear e2 e3
      show Go g 0 0 sh M37 sz 54 [(0, vr r), (1, vi x1)] []
      refine go_lv (lv' := [(0, vr r)]) X [0] rfl ?_
      exact hJ54  S34 M37  md38 hF36
  · skip
    have hF40 := if_t hF16 hq20
    refine go_aload_n X d_Model_taken_12 rfl rfl ?_
    refine go_bipush (v := 7) X d_Model_taken_13 (by decide) ?_
    obtain ⟨v41, S42, hG43, hF44⟩ := bnd_t hF40
    refine go_cV (st2 := []) (r := []) X k_Model_144 (a_warn l D md18 (by decide) hG43) md18.1.1 rfl rfl (by decide) (Nat.le_of_ble_eq_true rfl) d_Model_taken_15 (by decide) (by decide) (fun v' sh' M45 sz' hpp => ?_)
    obtain ⟨e1, e2, e3, md46⟩ := hpp
    subst e1
    rw [e2, e3]
    clear e2 e3
    show Go g 0 0 sh M45 sz 18 [(0, vr r), (1, vi x1)] []
    exact go_vret X d_Model_taken_18 rfl (by decide) (by decide) (ret_v hF44 md46)
def A_more_j138 (N : Nat) (S : s_M) : rO := some (0, S)
theorem A_more_j138_e (N : Nat) (S : s_M) : A_more_j138 N S = (some (0, S)) := rfl
def A_more_j117 (N : Nat) (x1 : Int) (S : s_M) : rO := if x1 = 22 then (if 0 < (S 0 45) then (bnd (A_ends N (S 0 45) S) fun v7 S8 => A_more_j138 N  S8) else (A_more_j138 N  S)) else (A_more_j138 N  S)
theorem A_more_j117_e (N : Nat) (x1 : Int) (S : s_M) : A_more_j117 N x1 S = (if x1 = 22 then (if 0 < (S 0 45) then (bnd (A_ends N (S 0 45) S) fun v7 S8 => A_more_j138 N  S8) else (A_more_j138 N  S)) else (A_more_j138 N  S)) := rfl
def A_more_j101 (N : Nat) (x1 : Int) (S : s_M) : rO := if x1 = 21 then (bnd (A_taken N 82 S) fun v17 S18 => bnd (A_putOut N S18) fun v24 S25 => A_more_j117 N x1 S25) else (A_more_j117 N x1 S)
theorem A_more_j101_e (N : Nat) (x1 : Int) (S : s_M) : A_more_j101 N x1 S = (if x1 = 21 then (bnd (A_taken N 82 S) fun v17 S18 => bnd (A_putOut N S18) fun v24 S25 => A_more_j117 N x1 S25) else (A_more_j117 N x1 S)) := rfl
def A_more_j69 (N : Nat) (x1 : Int) (S : s_M) : rO := if x1 = 20 then (bnd (A_taken N 82 S) fun v34 S35 => if (S35 0 31) < 0 then (A_more_j101 N x1 S35) else (chk (rI (62 + (S35 0 31))) <| bnd (A_copy N 82 (62 + (S35 0 31)) S35) fun v46 S47 => A_more_j101 N x1 S47)) else (A_more_j101 N x1 S)
theorem A_more_j69_e (N : Nat) (x1 : Int) (S : s_M) : A_more_j69 N x1 S = (if x1 = 20 then (bnd (A_taken N 82 S) fun v34 S35 => if (S35 0 31) < 0 then (A_more_j101 N x1 S35) else (chk (rI (62 + (S35 0 31))) <| bnd (A_copy N 82 (62 + (S35 0 31)) S35) fun v46 S47 => A_more_j101 N x1 S47)) else (A_more_j101 N x1 S)) := rfl
def A_more_j64 (N : Nat) (x1 : Int) (S : s_M) : rO := bnd (A_entrys N x1 S) fun v53 S54 => A_more_j69 N x1 S54
theorem A_more_j64_e (N : Nat) (x1 : Int) (S : s_M) : A_more_j64 N x1 S = (bnd (A_entrys N x1 S) fun v53 S54 => A_more_j69 N x1 S54) := rfl
def A_more_j52 (N : Nat) (x1 : Int) (S : s_M) : rO := if x1 = 18 then (A_more_j64 N x1 S) else (if x1 = 19 then (A_more_j64 N x1 S) else (A_more_j69 N x1 S))
theorem A_more_j52_e (N : Nat) (x1 : Int) (S : s_M) : A_more_j52 N x1 S = (if x1 = 18 then (A_more_j64 N x1 S) else (if x1 = 19 then (A_more_j64 N x1 S) else (A_more_j69 N x1 S))) := rfl
def A_more_j35 (N : Nat) (x1 x4 : Int) (S : s_M) : rO := if x1 = 17 then (chk (0 ≤ x4 ∧ x4 < 4) <| bnd (A_giveNumber N (S 15 x4) S) fun v71 S72 => A_more_j52 N x1 S72) else (A_more_j52 N x1 S)
theorem A_more_j35_e (N : Nat) (x1 x4 : Int) (S : s_M) : A_more_j35 N x1 x4 S = (if x1 = 17 then (chk (0 ≤ x4 ∧ x4 < 4) <| bnd (A_giveNumber N (S 15 x4) S) fun v71 S72 => A_more_j52 N x1 S72) else (A_more_j52 N x1 S)) := rfl
def A_more (N : Nat) (x1 x2 : Int) (S : s_M) : rO := if x1 = 16 then (bnd (A_number N S) fun v83 S84 => chk (0 ≤ (wi32 (if x2 < 0 then (0 : Int) else (l_mod x2 4))) ∧ (wi32 (if x2 < 0 then (0 : Int) else (l_mod x2 4))) < 4) <| A_more_j35 N x1 (wi32 (if x2 < 0 then (0 : Int) else (l_mod x2 4))) (m_s S84 15 (wi32 (if x2 < 0 then (0 : Int) else (l_mod x2 4))) v83)) else (A_more_j35 N x1 (wi32 (if x2 < 0 then (0 : Int) else (l_mod x2 4))) S)
theorem A_more_e (N : Nat) (x1 x2 : Int) (S : s_M) : A_more N x1 x2 S = (if x1 = 16 then (bnd (A_number N S) fun v83 S84 => chk (0 ≤ (wi32 (if x2 < 0 then (0 : Int) else (l_mod x2 4))) ∧ (wi32 (if x2 < 0 then (0 : Int) else (l_mod x2 4))) < 4) <| A_more_j35 N x1 (wi32 (if x2 < 0 then (0 : Int) else (l_mod x2 4))) (m_s S84 15 (wi32 (if x2 < 0 then (0 : Int) else (l_mod x2 4))) v83)) else (A_more_j35 N x1 (wi32 (if x2 < 0 then (0 : Int) else (l_mod x2 4))) S)) := rfl
set_option maxHeartbeats 4000000 in
set_option maxRecDepth 100000 in
theorem a_more (l : Launch) (D : va_G) {sh : s_S} {M0 M : s_M} {sz r x1 x2 : Int} {N : Nat} {S S0 : s_M} {v0 : Int} (h : mq sh M0 M r S) (hx1 : rI x1) (hx2 : rL x2) (hF : A_more N x1 x2 S = some (v0, S0)) : Sp l D y_Model_more prog_14_method_65_code 5 none 5 0 0 [vr r, vi x1, vl x2] sh M sz (fun v' sh' M' sz' => v' = none ∧ sh' = sh ∧ sz' = sz ∧ mq sh M0 M' r S0) := by
  have hr0 := h.1.2.1
  refine Sp.ofGo (own := "CiteForgeModel") (nm := "more") (by decide) rfl rfl (Nat.le_of_ble_eq_true rfl) (lv := [(0, vr r), (1, vi x1), (2, vl x2)]) rfl ?_
  intro g X
  have hJ138 : ∀ (S1 M1 : s_M), mq sh M0 M1 r S1 → A_more_j138 N S1 = some (v0, S0) → Go g 0 0 sh M1 sz 138 [(0, vr r)] [] := by
    intro S1 M1 hm hF
    rw [A_more_j138_e] at hF
    exact go_vret X d_Model_more_138 rfl (by decide) (by decide) (ret_v hF hm)
  have hJ117 : ∀ (x1 : Int) (S1 M1 : s_M), rI x1 → mq sh M0 M1 r S1 → A_more_j117 N x1 S1 = some (v0, S0) → Go g 0 0 sh M1 sz 117 [(0, vr r), (1, vi x1)] [] := by
    intro x1 S1 M1 hx1 hm hF
    rw [A_more_j117_e] at hF
    refine go_iload_n X d_Model_more_117 rfl rfl ?_
    refine go_bipush (v := 22) X d_Model_more_118 (by decide) ?_
    refine go_icmp_ne (tgt := 138) X d_Model_more_120 rfl hx1 (by decide) (fun hq1 => ?_) (fun hq1 => ?_)
    · skip
      have hF2 := if_f hF hq1
      refine go_lv (lv' := [(0, vr r)]) X [0] rfl ?_
      exact hJ138  S1 M1  hm hF2
    · skip
      have hF3 := if_t hF hq1
      refine go_aload_n X d_Model_more_123 rfl rfl ?_
      refine go_get (v := vi (S1 0 45)) X f_Model_316 hm.1.1 rfl d_Model_more_124 (congrArg (s_v .int) ((hm.s 45).trans (rfl))) ?_
      refine go_if_le (tgt := 138) X d_Model_more_127 rfl (hm.gS 45 (by decide) (by decide)) (fun hq4 => ?_) (fun hq4 => ?_)
      · skip
        have hF5 := if_f hF3 (Int.not_lt.mpr hq4)
        refine go_lv (lv' := [(0, vr r)]) X [0] rfl ?_
        exact hJ138  S1 M1  hm hF5
      · skip
        have hF6 := if_t hF3 hq4
        refine go_aload_n X d_Model_more_130 rfl rfl ?_
        refine go_aload_n X d_Model_more_131 rfl rfl ?_
        refine go_get (v := vi (S1 0 45)) X f_Model_316 hm.1.1 rfl d_Model_more_132 (congrArg (s_v .int) ((hm.s 45).trans (rfl))) ?_
        obtain ⟨v7, S8, hG9, hF10⟩ := bnd_t hF6
        refine go_cV (st2 := []) (r := []) X k_Model_319 (a_ends l D hm (hm.gS 45 (by decide) (by decide)) hG9) hm.1.1 rfl rfl (by decide) (Nat.le_of_ble_eq_true rfl) d_Model_more_135 (by decide) (by decide) (fun v' sh' M11 sz' hpp => ?_)
        obtain ⟨e1, e2, e3, md12⟩ := hpp
        subst e1
        rw [e2, e3]
        clear e2 e3
        show Go g 0 0 sh M11 sz 138 [(0, vr r), (1, vi x1)] []
        refine go_lv (lv' := [(0, vr r)]) X [0] rfl ?_
        exact hJ138  S8 M11  md12 hF10
  have hJ101 : ∀ (x1 : Int) (S1 M1 : s_M), rI x1 → mq sh M0 M1 r S1 → A_more_j101 N x1 S1 = some (v0, S0) → Go g 0 0 sh M1 sz 101 [(0, vr r), (1, vi x1)] [] := by
    intro x1 S1 M1 hx1 hm hF
    rw [A_more_j101_e] at hF
    refine go_iload_n X d_Model_more_101 rfl rfl ?_
    refine go_bipush (v := 21) X d_Model_more_102 (by decide) ?_
    refine go_icmp_ne (tgt := 117) X d_Model_more_104 rfl hx1 (by decide) (fun hq14 => ?_) (fun hq14 => ?_)
    · skip
      have hF15 := if_f hF hq14
      refine go_lv (lv' := [(0, vr r), (1, vi x1)]) X [0, 1] rfl ?_
      exact hJ117 x1 S1 M1 hx1 hm hF15
    · skip
      have hF16 := if_t hF hq14
      refine go_aload_n X d_Model_more_107 rfl rfl ?_
      refine go_bipush (v := 82) X d_Model_more_108 (by decide) ?_
      obtain ⟨v17, S18, hG19, hF20⟩ := bnd_t hF16
      refine go_cV (st2 := []) (r := []) X k_Model_286 (a_taken l D hm (by decide) hG19) hm.1.1 rfl rfl (by decide) (Nat.le_of_ble_eq_true rfl) d_Model_more_110 (by decide) (by decide) (fun v' sh' M21 sz' hpp => ?_)
      obtain ⟨e1, e2, e3, md22⟩ := hpp
      subst e1
      rw [e2, e3]
      clear e2 e3
      show Go g 0 0 sh M21 sz 113 [(0, vr r), (1, vi x1)] []
      refine go_aload_n X d_Model_more_113 rfl rfl ?_
      obtain ⟨v24, S25, hG26, hF27⟩ := bnd_t hF20
      refine go_cV (st2 := []) (r := []) X k_Model_313 (a_putOut l D md22 hG26) md22.1.1 rfl rfl (by decide) (Nat.le_of_ble_eq_true rfl) d_Model_more_114 (by decide) (by decide) (fun v' sh' M28 sz' hpp => ?_)
      obtain ⟨e1, e2, e3, md29⟩ := hpp
      subst e1
      rw [e2, e3]
      clear e2 e3
      show Go g 0 0 sh M28 sz 117 [(0, vr r), (1, vi x1)] []
      refine go_lv (lv' := [(0, vr r), (1, vi x1)]) X [0, 1] rfl ?_
      exact hJ117 x1 S25 M28 hx1 md29 hF27
  have hJ69 : ∀ (x1 : Int) (S1 M1 : s_M), rI x1 → mq sh M0 M1 r S1 → A_more_j69 N x1 S1 = some (v0, S0) → Go g 0 0 sh M1 sz 69 [(0, vr r), (1, vi x1)] [] := by
    intro x1 S1 M1 hx1 hm hF
    rw [A_more_j69_e] at hF
    refine go_iload_n X d_Model_more_69 rfl rfl ?_
    refine go_bipush (v := 20) X d_Model_more_70 (by decide) ?_
    refine go_icmp_ne (tgt := 101) X d_Model_more_72 rfl hx1 (by decide) (fun hq31 => ?_) (fun hq31 => ?_)
    · skip
      have hF32 := if_f hF hq31
      refine go_lv (lv' := [(0, vr r), (1, vi x1)]) X [0, 1] rfl ?_
      exact hJ101 x1 S1 M1 hx1 hm hF32
    · skip
      have hF33 := if_t hF hq31
      refine go_aload_n X d_Model_more_75 rfl rfl ?_
      refine go_bipush (v := 82) X d_Model_more_76 (by decide) ?_
      obtain ⟨v34, S35, hG36, hF37⟩ := bnd_t hF33
      refine go_cV (st2 := []) (r := []) X k_Model_286 (a_taken l D hm (by decide) hG36) hm.1.1 rfl rfl (by decide) (Nat.le_of_ble_eq_true rfl) d_Model_more_78 (by decide) (by decide) (fun v' sh' M38 sz' hpp => ?_)
      obtain ⟨e1, e2, e3, md39⟩ := hpp
      subst e1
      rw [e2, e3]
      clear e2 e3
      show Go g 0 0 sh M38 sz 81 [(0, vr r), (1, vi x1)] []
      refine go_aload_n X d_Model_more_81 rfl rfl ?_
      refine go_get (v := vi (S35 0 31)) X f_Model_279 md39.1.1 rfl d_Model_more_82 (congrArg (s_v .int) ((md39.s 31).trans (rfl))) ?_
      refine go_if_lt (tgt := 101) X d_Model_more_85 rfl (md39.gS 31 (by decide) (by decide)) (fun hq41 => ?_) (fun hq41 => ?_)
      · skip
        have hF42 := if_t hF37 hq41
        refine go_lv (lv' := [(0, vr r), (1, vi x1)]) X [0, 1] rfl ?_
        exact hJ101 x1 S35 M38 hx1 md39 hF42
      · skip
        have hF43 := if_f hF37 (Int.not_lt.mpr hq41)
        refine go_aload_n X d_Model_more_88 rfl rfl ?_
        refine go_bipush (v := 82) X d_Model_more_89 (by decide) ?_
        refine go_bipush (v := 62) X d_Model_more_91 (by decide) ?_
        refine go_aload_n X d_Model_more_93 rfl rfl ?_
        refine go_get (v := vi (S35 0 31)) X f_Model_279 md39.1.1 rfl d_Model_more_94 (congrArg (s_v .int) ((md39.s 31).trans (rfl))) ?_
        refine go_iadd X d_Model_more_97 ?_
        obtain ⟨hc44, hF45⟩ := chk_t hF43
        obtain ⟨v46, S47, hG48, hF49⟩ := bnd_t hF45
        refine go_cV (st2 := []) (r := []) X k_Model_194 (a_copy l D md39 (by decide) hc44 hG48) md39.1.1 rfl rfl (by decide) (Nat.le_of_ble_eq_true rfl) d_Model_more_98 (by decide) (by decide) (fun v' sh' M50 sz' hpp => ?_)
        obtain ⟨e1, e2, e3, md51⟩ := hpp
        subst e1
        rw [e2, e3]
        clear e2 e3
        show Go g 0 0 sh M50 sz 101 [(0, vr r), (1, vi x1)] []
        refine go_lv (lv' := [(0, vr r), (1, vi x1)]) X [0, 1] rfl ?_
        exact hJ101 x1 S47 M50 hx1 md51 hF49
  have hJ64 : ∀ (x1 : Int) (S1 M1 : s_M), rI x1 → mq sh M0 M1 r S1 → A_more_j64 N x1 S1 = some (v0, S0) → Go g 0 0 sh M1 sz 64 [(0, vr r), (1, vi x1)] [] := by
    intro x1 S1 M1 hx1 hm hF
    rw [A_more_j64_e] at hF
    refine go_aload_n X d_Model_more_64 rfl rfl ?_
    refine go_iload_n X d_Model_more_65 rfl rfl ?_
    obtain ⟨v53, S54, hG55, hF56⟩ := bnd_t hF
    refine go_cV (st2 := []) (r := []) X k_Model_310 (a_entrys l D hm hx1 hG55) hm.1.1 rfl rfl (by decide) (Nat.le_of_ble_eq_true rfl) d_Model_more_66 (by decide) (by decide) (fun v' sh' M57 sz' hpp => ?_)
    obtain ⟨e1, e2, e3, md58⟩ := hpp
    subst e1
    rw [e2, e3]
    clear e2 e3
    show Go g 0 0 sh M57 sz 69 [(0, vr r), (1, vi x1)] []
    refine go_lv (lv' := [(0, vr r), (1, vi x1)]) X [0, 1] rfl ?_
    exact hJ69 x1 S54 M57 hx1 md58 hF56
  have hJ52 : ∀ (x1 : Int) (S1 M1 : s_M), rI x1 → mq sh M0 M1 r S1 → A_more_j52 N x1 S1 = some (v0, S0) → Go g 0 0 sh M1 sz 52 [(0, vr r), (1, vi x1)] [] := by
    intro x1 S1 M1 hx1 hm hF
    rw [A_more_j52_e] at hF
    refine go_iload_n X d_Model_more_52 rfl rfl ?_
    refine go_bipush (v := 18) X d_Model_more_53 (by decide) ?_
    refine go_icmp_eq (tgt := 64) X d_Model_more_55 rfl hx1 (by decide) (fun hq60 => ?_) (fun hq60 => ?_)
    · skip
      have hF61 := if_t hF hq60
      refine go_lv (lv' := [(0, vr r), (1, vi x1)]) X [0, 1] rfl ?_
      exact hJ64 x1 S1 M1 hx1 hm hF61
    · skip
      have hF62 := if_f hF hq60
      refine go_iload_n X d_Model_more_58 rfl rfl ?_
      refine go_bipush (v := 19) X d_Model_more_59 (by decide) ?_
      refine go_icmp_ne (tgt := 69) X d_Model_more_61 rfl hx1 (by decide) (fun hq63 => ?_) (fun hq63 => ?_)
      · skip
        have hF64 := if_f hF62 hq63
        refine go_lv (lv' := [(0, vr r), (1, vi x1)]) X [0, 1] rfl ?_
        exact hJ69 x1 S1 M1 hx1 hm hF64
      · skip
        have hF65 := if_t hF62 hq63
        refine go_lv (lv' := [(0, vr r), (1, vi x1)]) X [0, 1] rfl ?_
        exact hJ64 x1 S1 M1 hx1 hm hF65
  have hJ35 : ∀ (x1 x4 : Int) (S1 M1 : s_M), rI x1 → rI x4 → mq sh M0 M1 r S1 → A_more_j35 N x1 x4 S1 = some (v0, S0) → Go g 0 0 sh M1 sz 35 [(0, vr r), (1, vi x1), (4, vi x4)] [] := by
    intro x1 x4 S1 M1 hx1 hx4 hm hF
    rw [A_more_j35_e] at hF
    refine go_iload_n X d_Model_more_35 rfl rfl ?_
    refine go_bipush (v := 17) X d_Model_more_36 (by decide) ?_
    refine go_icmp_ne (tgt := 52) X d_Model_more_38 rfl hx1 (by decide) (fun hq66 => ?_) (fun hq66 => ?_)
    · skip
      have hF67 := if_f hF hq66
      refine go_lv (lv' := [(0, vr r), (1, vi x1)]) X [0, 1] rfl ?_
      exact hJ52 x1 S1 M1 hx1 hm hF67
    · skip
      have hF68 := if_t hF hq66
      refine go_aload_n X d_Model_more_41 rfl rfl ?_
      refine go_aload_n X d_Model_more_42 rfl rfl ?_
      refine go_get (v := vr (r + 15)) X f_Model_53 hm.1.1 rfl d_Model_more_43 (s_varr (hm.1.2.2 14 _ rfl).2 (by omega)) ?_
      refine go_iload X d_Model_more_46 rfl ?_
      obtain ⟨hc69, hF70⟩ := chk_t hF68
      refine go_iald X (hm.1.2.2 14 _ rfl).1 (by decide) hc69 d_Model_more_48 ?_
      refine go_top (v' := vi (S1 15 x4)) X (congrArg (fun q => vi q) ((hm.a (by decide) x4).trans (rfl))) ?_
      obtain ⟨v71, S72, hG73, hF74⟩ := bnd_t hF70
      refine go_cV (st2 := []) (r := []) X k_Model_260 (a_giveNumber l D hm (hm.gA (by decide) x4) hG73) hm.1.1 rfl rfl (by decide) (Nat.le_of_ble_eq_true rfl) d_Model_more_49 (by decide) (by decide) (fun v' sh' M75 sz' hpp => ?_)
      obtain ⟨e1, e2, e3, md76⟩ := hpp
      subst e1
      rw [e2, e3]
      clear e2 e3
      show Go g 0 0 sh M75 sz 52 [(0, vr r), (1, vi x1), (4, vi x4)] []
      refine go_lv (lv' := [(0, vr r), (1, vi x1)]) X [0, 1] rfl ?_
      exact hJ52 x1 S72 M75 hx1 md76 hF74
  rw [A_more_e] at hF
  refine go_lload_n X d_Model_more_0 rfl rfl ?_
  refine go_lconst (x := 0) X d_Model_more_1 (by decide) ?_
  refine go_lcmp X hx2 (by decide) d_Model_more_2 ?_
  suffices hv78 : Go g 0 0 sh M sz 15 [(0, vr r), (1, vi x1), (2, vl x2)] [vl (if x2 < 0 then (0 : Int) else (l_mod x2 4))] by
    refine go_if_ge (tgt := 10) X d_Model_more_3 rfl (rI_cmp _ _) (fun hq79 => ?_) (fun hq79 => ?_)
    · skip
      refine go_lload_n X d_Model_more_10 rfl rfl ?_
      refine go_ldc2 (x := 4) X w_kl_Model_308 (by decide) d_Model_more_11 ?_
      refine go_lrem (z := l_mod x2 4) X d_Model_more_14 (by decide) (Int64.ofInt_toInt _).symm ?_
      refine go_top (v' := vl (if x2 < 0 then (0 : Int) else (l_mod x2 4))) X (congrArg (fun q => vl q) (show l_mod x2 4 = if x2 < 0 then (0 : Int) else (l_mod x2 4) from ((if_neg (Int.not_lt.mpr (sc_ge hq79)))).symm)) ?_
      exact hv78
    · skip
      refine go_lconst (x := 0) X d_Model_more_6 (by decide) ?_
      refine go_goto (tgt := 15) X d_Model_more_7 rfl ?_
      refine go_top (v' := vl (if x2 < 0 then (0 : Int) else (l_mod x2 4))) X (congrArg (fun q => vl q) (show 0 = if x2 < 0 then (0 : Int) else (l_mod x2 4) from ((if_pos (sc_lt hq79))).symm)) ?_
      exact hv78
  refine go_l2i X d_Model_more_15 ?_
  refine go_top (v' := vi (wi32 (if x2 < 0 then (0 : Int) else (l_mod x2 4)))) X (wi32_vi _) ?_
  refine go_istore (lv' := [(4, vi (wi32 (if x2 < 0 then (0 : Int) else (l_mod x2 4)))), (0, vr r), (1, vi x1), (2, vl x2)]) X d_Model_more_16 (by decide) rfl ?_
  refine go_iload_n X d_Model_more_18 rfl rfl ?_
  refine go_bipush (v := 16) X d_Model_more_19 (by decide) ?_
  refine go_icmp_ne (tgt := 35) X d_Model_more_21 rfl hx1 (by decide) (fun hq80 => ?_) (fun hq80 => ?_)
  · skip
    have hF81 := if_f hF hq80
    refine go_lv (lv' := [(0, vr r), (1, vi x1), (4, vi (wi32 (if x2 < 0 then (0 : Int) else (l_mod x2 4))))]) X [1, 2, 0] rfl ?_
    exact hJ35 x1 (wi32 (if x2 < 0 then (0 : Int) else (l_mod x2 4))) S M hx1 (wi32_rng _) h hF81
  · skip
    have hF82 := if_t hF hq80
    refine go_aload_n X d_Model_more_24 rfl rfl ?_
    refine go_get (v := vr (r + 15)) X f_Model_53 h.1.1 rfl d_Model_more_25 (s_varr (h.1.2.2 14 _ rfl).2 (by omega)) ?_
    refine go_iload X d_Model_more_28 rfl ?_
    refine go_aload_n X d_Model_more_30 rfl rfl ?_
    obtain ⟨v83, S84, hG85, hF86⟩ := bnd_t hF82
    refine go_cV (st2 := []) (r := [vi (wi32 (if x2 < 0 then (0 : Int) else (l_mod x2 4))), vr (r + 15)]) X k_Model_292 (a_number l D h hG85) h.1.1 rfl rfl (by decide) (Nat.le_of_ble_eq_true rfl) d_Model_more_31 (by decide) (by decide) (fun v' sh' M87 sz' hpp => ?_)
    obtain ⟨e1, e2, e3, hv89, md88⟩ := hpp
    subst e1
    rw [e2, e3]
    clear e2 e3
    show Go g 0 0 sh M87 sz 34 [(4, vi (wi32 (if x2 < 0 then (0 : Int) else (l_mod x2 4)))), (0, vr r), (1, vi x1), (2, vl x2)] [vi v83, vi (wi32 (if x2 < 0 then (0 : Int) else (l_mod x2 4))), vr (r + 15)]
    obtain ⟨hc90, hF91⟩ := chk_t hF86
    refine go_iast (x := v83) X (md88.1.2.2 14 _ rfl).1 (by decide) hc90 d_Model_more_34 ?_
    have md92 : mq sh M0 (m_s M87 (r + 15) (wi32 (if x2 < 0 then (0 : Int) else (l_mod x2 4))) v83) r (m_s S84 15 (wi32 (if x2 < 0 then (0 : Int) else (l_mod x2 4))) v83) := md88.put (by decide) ((rg_A (by decide) hv89))
    generalize m_s M87 (r + 15) (wi32 (if x2 < 0 then (0 : Int) else (l_mod x2 4))) v83 = M93 at md92 ⊢
    refine go_lv (lv' := [(0, vr r), (1, vi x1), (4, vi (wi32 (if x2 < 0 then (0 : Int) else (l_mod x2 4))))]) X [1, 2, 0] rfl ?_
    exact hJ35 x1 (wi32 (if x2 < 0 then (0 : Int) else (l_mod x2 4))) (m_s S84 15 (wi32 (if x2 < 0 then (0 : Int) else (l_mod x2 4))) v83) M93 hx1 (wi32_rng _) md92 hF91
def A_any_j88 (N : Nat) (y0 : Int) (S : s_M) : rO := some (y0, S)
theorem A_any_j88_e (N : Nat) (y0 : Int) (S : s_M) : A_any_j88 N y0 S = (some (y0, S)) := rfl
def A_any_j68 (N : Nat) (S : s_M) : rO := if (S 0 49) = 0 then (chk (0 ≤ (S 0 26) ∧ (S 0 26) < 12) <| A_any_j88 N (S 17 (S 0 26)) S) else (A_any_j88 N 0 S)
theorem A_any_j68_e (N : Nat) (S : s_M) : A_any_j68 N S = (if (S 0 49) = 0 then (chk (0 ≤ (S 0 26) ∧ (S 0 26) < 12) <| A_any_j88 N (S 17 (S 0 26)) S) else (A_any_j88 N 0 S)) := rfl
def A_any (N : Nat) (x1 : Int) (S : s_M) : rO := bnd (A_clearText N x1 S) fun v6 S7 => if (S7 0 26) = 0 then (bnd (A_warn N 7 (m_s S7 0 49 0)) fun v38 S39 => some (0, S39)) else (chk (rI ((S7 0 26) - 1)) <| chk (0 ≤ ((S7 0 26) - 1) ∧ ((S7 0 26) - 1) < 12) <| if (S7 16 ((S7 0 26) - 1)) = 1 then (chk (rI (70 + ((S7 0 26) - 1))) <| bnd (A_copy N (70 + ((S7 0 26) - 1)) x1 (m_s (m_s (m_s S7 0 49 0) 0 26 ((S7 0 26) - 1)) 0 49 (S7 16 ((S7 0 26) - 1)))) fun v30 S31 => A_any_j68 N  S31) else (A_any_j68 N  (m_s (m_s (m_s S7 0 49 0) 0 26 ((S7 0 26) - 1)) 0 49 (S7 16 ((S7 0 26) - 1)))))
theorem A_any_e (N : Nat) (x1 : Int) (S : s_M) : A_any N x1 S = (bnd (A_clearText N x1 S) fun v6 S7 => if (S7 0 26) = 0 then (bnd (A_warn N 7 (m_s S7 0 49 0)) fun v38 S39 => some (0, S39)) else (chk (rI ((S7 0 26) - 1)) <| chk (0 ≤ ((S7 0 26) - 1) ∧ ((S7 0 26) - 1) < 12) <| if (S7 16 ((S7 0 26) - 1)) = 1 then (chk (rI (70 + ((S7 0 26) - 1))) <| bnd (A_copy N (70 + ((S7 0 26) - 1)) x1 (m_s (m_s (m_s S7 0 49 0) 0 26 ((S7 0 26) - 1)) 0 49 (S7 16 ((S7 0 26) - 1)))) fun v30 S31 => A_any_j68 N  S31) else (A_any_j68 N  (m_s (m_s (m_s S7 0 49 0) 0 26 ((S7 0 26) - 1)) 0 49 (S7 16 ((S7 0 26) - 1)))))) := rfl
set_option maxHeartbeats 4000000 in
set_option maxRecDepth 100000 in
theorem a_any (l : Launch) (D : va_G) {sh : s_S} {M0 M : s_M} {sz r x1 : Int} {N : Nat} {S S0 : s_M} {v0 : Int} (h : mq sh M0 M r S) (hx1 : rI x1) (hF : A_any N x1 S = some (v0, S0)) : Sp l D y_Model_any prog_14_method_55_code 2 (some .int) 3 0 0 [vr r, vi x1] sh M sz (fun v' sh' M' sz' => v' = some (vi v0) ∧ sh' = sh ∧ sz' = sz ∧ rI v0 ∧ mq sh M0 M' r S0) := by
  have hr0 := h.1.2.1
  refine Sp.ofGo (own := "CiteForgeModel") (nm := "any") (by decide) rfl rfl (Nat.le_of_ble_eq_true rfl) (lv := [(0, vr r), (1, vi x1)]) rfl ?_
  intro g X
  have hJ88 : ∀ (y0 : Int) (S1 M1 : s_M), rI y0 → mq sh M0 M1 r S1 → A_any_j88 N y0 S1 = some (v0, S0) → Go g 0 0 sh M1 sz 88 [(0, vr r)] [vi y0] := by
    intro y0 S1 M1 hy0 hm hF
    rw [A_any_j88_e] at hF
    exact go_iret X d_Model_any_88 rfl rfl (by decide) (by decide) (ret_i hF hy0 hm)
  have hJ68 : ∀ (S1 M1 : s_M), mq sh M0 M1 r S1 → A_any_j68 N S1 = some (v0, S0) → Go g 0 0 sh M1 sz 68 [(0, vr r)] [] := by
    intro S1 M1 hm hF
    rw [A_any_j68_e] at hF
    refine go_aload_n X d_Model_any_68 rfl rfl ?_
    refine go_get (v := vi (S1 0 49)) X f_Model_257 hm.1.1 rfl d_Model_any_69 (congrArg (s_v .int) ((hm.s 49).trans (rfl))) ?_
    refine go_if_ne (tgt := 87) X d_Model_any_72 rfl (hm.gS 49 (by decide) (by decide)) (fun hq1 => ?_) (fun hq1 => ?_)
    · skip
      have hF2 := if_f hF hq1
      refine go_iconst (v := 0) X d_Model_any_87 ?_
      refine go_lv (lv' := [(0, vr r)]) X [0] rfl ?_
      exact hJ88 0 S1 M1 (by decide) hm hF2
    · skip
      have hF3 := if_t hF hq1
      refine go_aload_n X d_Model_any_75 rfl rfl ?_
      refine go_get (v := vr (r + 17)) X f_Model_59 hm.1.1 rfl d_Model_any_76 (s_varr (hm.1.2.2 16 _ rfl).2 (by omega)) ?_
      refine go_aload_n X d_Model_any_79 rfl rfl ?_
      refine go_get (v := vi (S1 0 26)) X f_Model_250 hm.1.1 rfl d_Model_any_80 (congrArg (s_v .int) ((hm.s 26).trans (rfl))) ?_
      obtain ⟨hc4, hF5⟩ := chk_t hF3
      refine go_iald X (hm.1.2.2 16 _ rfl).1 (by decide) hc4 d_Model_any_83 ?_
      refine go_top (v' := vi (S1 17 (S1 0 26))) X (congrArg (fun q => vi q) ((hm.a (by decide) (S1 0 26)).trans (rfl))) ?_
      refine go_goto (tgt := 88) X d_Model_any_84 rfl ?_
      refine go_lv (lv' := [(0, vr r)]) X [0] rfl ?_
      exact hJ88 (S1 17 (S1 0 26)) S1 M1 (hm.gA (by decide) (S1 0 26)) hm hF5
  rw [A_any_e] at hF
  refine go_aload_n X d_Model_any_0 rfl rfl ?_
  refine go_iload_n X d_Model_any_1 rfl rfl ?_
  obtain ⟨v6, S7, hG8, hF9⟩ := bnd_t hF
  refine go_cV (st2 := []) (r := []) X k_Model_120 (a_clearText l D h hx1 hG8) h.1.1 rfl rfl (by decide) (Nat.le_of_ble_eq_true rfl) d_Model_any_2 (by decide) (by decide) (fun v' sh' M10 sz' hpp => ?_)
  obtain ⟨e1, e2, e3, md11⟩ := hpp
  subst e1
  rw [e2, e3]
  clear e2 e3
  show Go g 0 0 sh M10 sz 5 [(0, vr r), (1, vi x1)] []
  refine go_aload_n X d_Model_any_5 rfl rfl ?_
  refine go_iconst (v := 0) X d_Model_any_6 ?_
  refine go_put (x := 0) (v := vi 0) X f_Model_257 md11.1.1 rfl d_Model_any_7 rfl rfl rfl ?_
  have md13 : mq sh M0 (m_s M10 r 49 0) r (m_s S7 0 49 0) := md11.put0 (by decide) ((rg_S (by decide) (by decide) (by decide)))
  generalize m_s M10 r 49 0 = M14 at md13 ⊢
  refine go_aload_n X d_Model_any_10 rfl rfl ?_
  refine go_get (v := vi (S7 0 26)) X f_Model_250 md13.1.1 rfl d_Model_any_11 (congrArg (s_v .int) ((md13.s 26).trans ((m_sj (by decide)).trans (rfl)))) ?_
  refine go_if_ne (tgt := 25) X d_Model_any_14 rfl (rI_eq (md13.gS 26 (by decide) (by decide)) ((m_sj (by decide)).trans (rfl))) (fun hq15 => ?_) (fun hq15 => ?_)
  · skip
    have hF16 := if_f hF9 hq15
    refine go_aload_n X d_Model_any_25 rfl rfl ?_
    refine go_dup X d_Model_any_26 rfl ?_
    refine go_get (v := vi (S7 0 26)) X f_Model_250 md13.1.1 rfl d_Model_any_27 (congrArg (s_v .int) ((md13.s 26).trans ((m_sj (by decide)).trans (rfl)))) ?_
    refine go_iconst (v := 1) X d_Model_any_30 ?_
    refine go_isub X d_Model_any_31 ?_
    obtain ⟨hc17, hF18⟩ := chk_t hF16
    refine go_put (x := ((S7 0 26) - 1)) (v := vi ((S7 0 26) - 1)) X f_Model_250 md13.1.1 rfl d_Model_any_32 rfl rfl rfl ?_
    have md19 : mq sh M0 (m_s M14 r 26 ((S7 0 26) - 1)) r (m_s (m_s S7 0 49 0) 0 26 ((S7 0 26) - 1)) := md13.put0 (by decide) ((rg_S (by decide) (by decide) hc17))
    generalize m_s M14 r 26 ((S7 0 26) - 1) = M20 at md19 ⊢
    refine go_aload_n X d_Model_any_35 rfl rfl ?_
    refine go_aload_n X d_Model_any_36 rfl rfl ?_
    refine go_get (v := vr (r + 16)) X f_Model_56 md19.1.1 rfl d_Model_any_37 (s_varr (md19.1.2.2 15 _ rfl).2 (by omega)) ?_
    refine go_aload_n X d_Model_any_40 rfl rfl ?_
    refine go_get (v := vi ((S7 0 26) - 1)) X f_Model_250 md19.1.1 rfl d_Model_any_41 (congrArg (s_v .int) ((md19.s 26).trans (m_s_s))) ?_
    obtain ⟨hc21, hF22⟩ := chk_t hF18
    refine go_iald X (md19.1.2.2 15 _ rfl).1 (by decide) hc21 d_Model_any_44 ?_
    refine go_top (v' := vi (S7 16 ((S7 0 26) - 1))) X (congrArg (fun q => vi q) ((md19.a (by decide) ((S7 0 26) - 1)).trans ((m_sk (by decide)).trans ((m_sk (by decide)).trans (rfl))))) ?_
    refine go_put (x := (S7 16 ((S7 0 26) - 1))) (v := vi (S7 16 ((S7 0 26) - 1))) X f_Model_257 md19.1.1 rfl d_Model_any_45 rfl rfl rfl ?_
    have md23 : mq sh M0 (m_s M20 r 49 (S7 16 ((S7 0 26) - 1))) r (m_s (m_s (m_s S7 0 49 0) 0 26 ((S7 0 26) - 1)) 0 49 (S7 16 ((S7 0 26) - 1))) := md19.put0 (by decide) ((rg_S (by decide) (by decide) (rI_eq (md19.gA (by decide) ((S7 0 26) - 1)) ((m_sk (by decide)).trans ((m_sk (by decide)).trans (rfl))))))
    generalize m_s M20 r 49 (S7 16 ((S7 0 26) - 1)) = M24 at md23 ⊢
    refine go_aload_n X d_Model_any_48 rfl rfl ?_
    refine go_get (v := vi (S7 16 ((S7 0 26) - 1))) X f_Model_257 md23.1.1 rfl d_Model_any_49 (congrArg (s_v .int) ((md23.s 49).trans (m_s_s))) ?_
    refine go_iconst (v := 1) X d_Model_any_52 ?_
    refine go_icmp_ne (tgt := 68) X d_Model_any_53 rfl (rI_eq (md19.gA (by decide) ((S7 0 26) - 1)) ((m_sk (by decide)).trans ((m_sk (by decide)).trans (rfl)))) (by decide) (fun hq25 => ?_) (fun hq25 => ?_)
    · skip
      have hF26 := if_f hF22 hq25
      refine go_lv (lv' := [(0, vr r)]) X [0] rfl ?_
      exact hJ68  (m_s (m_s (m_s S7 0 49 0) 0 26 ((S7 0 26) - 1)) 0 49 (S7 16 ((S7 0 26) - 1))) M24  md23 hF26
    · skip
      have hF27 := if_t hF22 hq25
      refine go_aload_n X d_Model_any_56 rfl rfl ?_
      refine go_bipush (v := 70) X d_Model_any_57 (by decide) ?_
      refine go_aload_n X d_Model_any_59 rfl rfl ?_
      refine go_get (v := vi ((S7 0 26) - 1)) X f_Model_250 md23.1.1 rfl d_Model_any_60 (congrArg (s_v .int) ((md23.s 26).trans ((m_sj (by decide)).trans (m_s_s)))) ?_
      refine go_iadd X d_Model_any_63 ?_
      obtain ⟨hc28, hF29⟩ := chk_t hF27
      refine go_iload_n X d_Model_any_64 rfl rfl ?_
      obtain ⟨v30, S31, hG32, hF33⟩ := bnd_t hF29
      refine go_cV (st2 := []) (r := []) X k_Model_194 (a_copy l D md23 hc28 hx1 hG32) md23.1.1 rfl rfl (by decide) (Nat.le_of_ble_eq_true rfl) d_Model_any_65 (by decide) (by decide) (fun v' sh' M34 sz' hpp => ?_)
      obtain ⟨e1, e2, e3, md35⟩ := hpp
      subst e1
      rw [e2, e3]
      clear e2 e3
      show Go g 0 0 sh M34 sz 68 [(0, vr r), (1, vi x1)] []
      refine go_lv (lv' := [(0, vr r)]) X [0] rfl ?_
      exact hJ68  S31 M34  md35 hF33
  · skip
    have hF37 := if_t hF9 hq15
    refine go_aload_n X d_Model_any_17 rfl rfl ?_
    refine go_bipush (v := 7) X d_Model_any_18 (by decide) ?_
    obtain ⟨v38, S39, hG40, hF41⟩ := bnd_t hF37
    refine go_cV (st2 := []) (r := []) X k_Model_144 (a_warn l D md13 (by decide) hG40) md13.1.1 rfl rfl (by decide) (Nat.le_of_ble_eq_true rfl) d_Model_any_20 (by decide) (by decide) (fun v' sh' M42 sz' hpp => ?_)
    obtain ⟨e1, e2, e3, md43⟩ := hpp
    subst e1
    rw [e2, e3]
    clear e2 e3
    show Go g 0 0 sh M42 sz 23 [(0, vr r), (1, vi x1)] []
    refine go_iconst (v := 0) X d_Model_any_23 ?_
    exact go_iret X d_Model_any_24 rfl rfl (by decide) (by decide) (ret_i hF41 (by decide) md43)
def A_same_j68 (N : Nat) (x3 : Int) (S : s_M) : rO := chk (0 ≤ x3 ∧ x3 ≤ 1) <| some (x3, S)
theorem A_same_j68_e (N : Nat) (x3 : Int) (S : s_M) : A_same_j68 N x3 S = (chk (0 ≤ x3 ∧ x3 ≤ 1) <| some (x3, S)) := rfl
def A_same_l24 (N : Nat) : Nat → Int → Int → Int → Int → s_M → rO
  | 0, _, _, _, _, _ => none
  | n + 1, x1, x2, x3, x4, S => if x3 = 0 then (A_same_j68 N x3 S) else (chk (0 ≤ x1 ∧ x1 < 85) <| if x4 < (S 3 x1) then (bnd (A_at N x1 x4 S) fun v11 S12 => bnd (A_at N x2 x4 S12) fun v18 S19 => chk (rI (x4 + 1)) <| (A_same_l24 N n) x1 x2 (if v11 = v18 then (1 : Int) else 0) (x4 + 1) S19) else (A_same_j68 N x3 S))
theorem A_same_l24_e (N : Nat) (n : Nat) (x1 x2 x3 x4 : Int) (S : s_M) : A_same_l24 N (n + 1) x1 x2 x3 x4 S = (if x3 = 0 then (A_same_j68 N x3 S) else (chk (0 ≤ x1 ∧ x1 < 85) <| if x4 < (S 3 x1) then (bnd (A_at N x1 x4 S) fun v11 S12 => bnd (A_at N x2 x4 S12) fun v18 S19 => chk (rI (x4 + 1)) <| (A_same_l24 N n) x1 x2 (if v11 = v18 then (1 : Int) else 0) (x4 + 1) S19) else (A_same_j68 N x3 S))) := rfl
def A_same (N : Nat) (x1 x2 : Int) (S : s_M) : rO := chk (0 ≤ x1 ∧ x1 < 85) <| chk (0 ≤ x2 ∧ x2 < 85) <| A_same_l24 N N x1 x2 (if (S 3 x1) = (S 3 x2) then (1 : Int) else 0) 0 S
theorem A_same_e (N : Nat) (x1 x2 : Int) (S : s_M) : A_same N x1 x2 S = (chk (0 ≤ x1 ∧ x1 < 85) <| chk (0 ≤ x2 ∧ x2 < 85) <| A_same_l24 N N x1 x2 (if (S 3 x1) = (S 3 x2) then (1 : Int) else 0) 0 S) := rfl
set_option maxHeartbeats 4000000 in
set_option maxRecDepth 100000 in
theorem a_same (l : Launch) (D : va_G) {sh : s_S} {M0 M : s_M} {sz r x1 x2 : Int} {N : Nat} {S S0 : s_M} {v0 : Int} (h : mq sh M0 M r S) (hx1 : rI x1) (hx2 : rI x2) (hF : A_same N x1 x2 S = some (v0, S0)) : Sp l D y_Model_same prog_14_method_57_code 5 (some .boolean) 2 0 0 [vr r, vi x1, vi x2] sh M sz (fun v' sh' M' sz' => v' = some (vi v0) ∧ sh' = sh ∧ sz' = sz ∧ rI v0 ∧ mq sh M0 M' r S0) := by
  have hr0 := h.1.2.1
  refine Sp.ofGo (own := "CiteForgeModel") (nm := "same") (by decide) rfl rfl (Nat.le_of_ble_eq_true rfl) (lv := [(0, vr r), (1, vi x1), (2, vi x2)]) rfl ?_
  intro g X
  have hJ68 : ∀ (x3 : Int) (S1 M1 : s_M), rI x3 → mq sh M0 M1 r S1 → A_same_j68 N x3 S1 = some (v0, S0) → Go g 0 0 sh M1 sz 68 [(0, vr r), (3, vi x3)] [] := by
    intro x3 S1 M1 hx3 hm hF
    rw [A_same_j68_e] at hF
    refine go_iload_n X d_Model_same_68 rfl rfl ?_
    obtain ⟨hc1, hF2⟩ := chk_t hF
    exact go_iret X d_Model_same_69 rfl (n_nz hc1) (by decide) (by decide) (ret_i hF2 hx3 hm)
  have hL24 : ∀ (n24 : Nat) (x1 x2 x3 x4 : Int) (S1 M1 : s_M), rI x1 → rI x2 → rI x3 → rI x4 → mq sh M0 M1 r S1 → A_same_l24 N n24 x1 x2 x3 x4 S1 = some (v0, S0) → Go g 0 0 sh M1 sz 24 [(0, vr r), (1, vi x1), (2, vi x2), (3, vi x3), (4, vi x4)] [] := by
    intro n24
    induction n24 with
    | zero => intro x1 x2 x3 x4 S1 M1 hx1 hx2 hx3 hx4 hm hF; cases hF
    | succ n24 ih24 =>
      intro x1 x2 x3 x4 S1 M1 hx1 hx2 hx3 hx4 hm hF
      rw [A_same_l24_e] at hF
      refine go_iload_n X d_Model_same_24 rfl rfl ?_
      refine go_if_eq (tgt := 68) X d_Model_same_25 rfl hx3 (fun hq3 => ?_) (fun hq3 => ?_)
      · skip
        have hF4 := if_t hF hq3
        refine go_lv (lv' := [(0, vr r), (3, vi x3)]) X [0, 3] rfl ?_
        exact hJ68 x3 S1 M1 hx3 hm hF4
      · skip
        have hF5 := if_f hF hq3
        refine go_iload X d_Model_same_28 rfl ?_
        refine go_aload_n X d_Model_same_30 rfl rfl ?_
        refine go_get (v := vr (r + 3)) X f_Model_16 hm.1.1 rfl d_Model_same_31 (s_varr (hm.1.2.2 2 _ rfl).2 (by omega)) ?_
        refine go_iload_n X d_Model_same_34 rfl rfl ?_
        obtain ⟨hc6, hF7⟩ := chk_t hF5
        refine go_iald X (hm.1.2.2 2 _ rfl).1 (by decide) hc6 d_Model_same_35 ?_
        refine go_top (v' := vi (S1 3 x1)) X (congrArg (fun q => vi q) ((hm.a (by decide) x1).trans (rfl))) ?_
        refine go_icmp_ge (tgt := 68) X d_Model_same_36 rfl hx4 (hm.gA (by decide) x1) (fun hq8 => ?_) (fun hq8 => ?_)
        · skip
          have hF9 := if_f hF7 (Int.not_lt.mpr hq8)
          refine go_lv (lv' := [(0, vr r), (3, vi x3)]) X [0, 3] rfl ?_
          exact hJ68 x3 S1 M1 hx3 hm hF9
        · skip
          have hF10 := if_t hF7 hq8
          refine go_aload_n X d_Model_same_39 rfl rfl ?_
          refine go_iload_n X d_Model_same_40 rfl rfl ?_
          refine go_iload X d_Model_same_41 rfl ?_
          obtain ⟨v11, S12, hG13, hF14⟩ := bnd_t hF10
          refine go_cV (st2 := []) (r := []) X k_Model_99 (a_at l D hm hx1 hx4 hG13) hm.1.1 rfl rfl (by decide) (Nat.le_of_ble_eq_true rfl) d_Model_same_43 (by decide) (by decide) (fun v' sh' M15 sz' hpp => ?_)
          obtain ⟨e1, e2, e3, hv17, md16⟩ := hpp
          subst e1
          rw [e2, e3]
          clear e2 e3
          show Go g 0 0 sh M15 sz 46 [(0, vr r), (1, vi x1), (2, vi x2), (3, vi x3), (4, vi x4)] [vi v11]
          refine go_aload_n X d_Model_same_46 rfl rfl ?_
          refine go_iload_n X d_Model_same_47 rfl rfl ?_
          refine go_iload X d_Model_same_48 rfl ?_
          obtain ⟨v18, S19, hG20, hF21⟩ := bnd_t hF14
          refine go_cV (st2 := []) (r := [vi v11]) X k_Model_99 (a_at l D md16 hx2 hx4 hG20) md16.1.1 rfl rfl (by decide) (Nat.le_of_ble_eq_true rfl) d_Model_same_50 (by decide) (by decide) (fun v' sh' M22 sz' hpp => ?_)
          obtain ⟨e1, e2, e3, hv24, md23⟩ := hpp
          subst e1
          rw [e2, e3]
          clear e2 e3
          show Go g 0 0 sh M22 sz 53 [(0, vr r), (1, vi x1), (2, vi x2), (3, vi x3), (4, vi x4)] [vi v18, vi v11]
          suffices hv25 : Go g 0 0 sh M22 sz 61 [(0, vr r), (1, vi x1), (2, vi x2), (3, vi x3), (4, vi x4)] [vi (if v11 = v18 then (1 : Int) else 0)] by
            refine go_icmp_ne (tgt := 60) X d_Model_same_53 rfl hv17 hv24 (fun hq26 => ?_) (fun hq26 => ?_)
            · skip
              refine go_iconst (v := 0) X d_Model_same_60 ?_
              refine go_top (v' := vi (if v11 = v18 then (1 : Int) else 0)) X (congrArg (fun q => vi q) (show 0 = if v11 = v18 then (1 : Int) else 0 from ((if_neg hq26)).symm)) ?_
              exact hv25
            · skip
              refine go_iconst (v := 1) X d_Model_same_56 ?_
              refine go_goto (tgt := 61) X d_Model_same_57 rfl ?_
              refine go_top (v' := vi (if v11 = v18 then (1 : Int) else 0)) X (congrArg (fun q => vi q) (show 1 = if v11 = v18 then (1 : Int) else 0 from ((if_pos hq26)).symm)) ?_
              exact hv25
          refine go_istore_n (lv' := [(3, vi (if v11 = v18 then (1 : Int) else 0)), (0, vr r), (1, vi x1), (2, vi x2), (4, vi x4)]) X d_Model_same_61 rfl (by decide) rfl ?_
          obtain ⟨hc27, hF28⟩ := chk_t hF21
          refine go_iinc (v := 1) (x := x4) (lv' := [(4, vi (x4 + 1)), (3, vi (if v11 = v18 then (1 : Int) else 0)), (0, vr r), (1, vi x1), (2, vi x2)]) X d_Model_same_62 rfl (by decide) rfl ?_
          refine go_goto (tgt := 24) X d_Model_same_65 rfl ?_
          refine go_lv (lv' := [(0, vr r), (1, vi x1), (2, vi x2), (3, vi (if v11 = v18 then (1 : Int) else 0)), (4, vi (x4 + 1))]) X [2, 3, 4, 1, 0] rfl ?_
          exact ih24 x1 x2 (if v11 = v18 then (1 : Int) else 0) (x4 + 1) S19 M22 hx1 hx2 (rI_ite (by decide) (by decide)) hc27 md23 hF28
  rw [A_same_e] at hF
  refine go_aload_n X d_Model_same_0 rfl rfl ?_
  refine go_get (v := vr (r + 3)) X f_Model_16 h.1.1 rfl d_Model_same_1 (s_varr (h.1.2.2 2 _ rfl).2 (by omega)) ?_
  refine go_iload_n X d_Model_same_4 rfl rfl ?_
  obtain ⟨hc29, hF30⟩ := chk_t hF
  refine go_iald X (h.1.2.2 2 _ rfl).1 (by decide) hc29 d_Model_same_5 ?_
  refine go_top (v' := vi (S 3 x1)) X (congrArg (fun q => vi q) ((h.a (by decide) x1).trans (rfl))) ?_
  refine go_aload_n X d_Model_same_6 rfl rfl ?_
  refine go_get (v := vr (r + 3)) X f_Model_16 h.1.1 rfl d_Model_same_7 (s_varr (h.1.2.2 2 _ rfl).2 (by omega)) ?_
  refine go_iload_n X d_Model_same_10 rfl rfl ?_
  obtain ⟨hc31, hF32⟩ := chk_t hF30
  refine go_iald X (h.1.2.2 2 _ rfl).1 (by decide) hc31 d_Model_same_11 ?_
  refine go_top (v' := vi (S 3 x2)) X (congrArg (fun q => vi q) ((h.a (by decide) x2).trans (rfl))) ?_
  suffices hv33 : Go g 0 0 sh M sz 20 [(0, vr r), (1, vi x1), (2, vi x2)] [vi (if (S 3 x1) = (S 3 x2) then (1 : Int) else 0)] by
    refine go_icmp_ne (tgt := 19) X d_Model_same_12 rfl (h.gA (by decide) x1) (h.gA (by decide) x2) (fun hq34 => ?_) (fun hq34 => ?_)
    · skip
      refine go_iconst (v := 0) X d_Model_same_19 ?_
      refine go_top (v' := vi (if (S 3 x1) = (S 3 x2) then (1 : Int) else 0)) X (congrArg (fun q => vi q) (show 0 = if (S 3 x1) = (S 3 x2) then (1 : Int) else 0 from ((if_neg hq34)).symm)) ?_
      exact hv33
    · skip
      refine go_iconst (v := 1) X d_Model_same_15 ?_
      refine go_goto (tgt := 20) X d_Model_same_16 rfl ?_
      refine go_top (v' := vi (if (S 3 x1) = (S 3 x2) then (1 : Int) else 0)) X (congrArg (fun q => vi q) (show 1 = if (S 3 x1) = (S 3 x2) then (1 : Int) else 0 from ((if_pos hq34)).symm)) ?_
      exact hv33
  refine go_istore_n (lv' := [(3, vi (if (S 3 x1) = (S 3 x2) then (1 : Int) else 0)), (0, vr r), (1, vi x1), (2, vi x2)]) X d_Model_same_20 rfl (by decide) rfl ?_
  refine go_iconst (v := 0) X d_Model_same_21 ?_
  refine go_istore (lv' := [(4, vi 0), (3, vi (if (S 3 x1) = (S 3 x2) then (1 : Int) else 0)), (0, vr r), (1, vi x1), (2, vi x2)]) X d_Model_same_22 (by decide) rfl ?_
  refine go_lv (lv' := [(0, vr r), (1, vi x1), (2, vi x2), (3, vi (if (S 3 x1) = (S 3 x2) then (1 : Int) else 0)), (4, vi 0)]) X [2, 3, 4, 1, 0] rfl ?_
  exact hL24 N x1 x2 (if (S 3 x1) = (S 3 x2) then (1 : Int) else 0) 0 S M hx1 hx2 (rI_ite (by decide) (by decide)) (by decide) h hF32
def A_compares_j90 (N : Nat) (y0 : Int) (S : s_M) : rO := bnd (A_giveNumber N y0 S) fun v1 S2 => some (0, S2)
theorem A_compares_j90_e (N : Nat) (y0 : Int) (S : s_M) : A_compares_j90 N y0 S = (bnd (A_giveNumber N y0 S) fun v1 S2 => some (0, S2)) := rfl
def A_compares_j89 (N : Nat) (S : s_M) : rO := A_compares_j90 N 0 S
theorem A_compares_j89_e (N : Nat) (S : s_M) : A_compares_j89 N S = (A_compares_j90 N 0 S) := rfl
def A_compares_j85 (N : Nat) (S : s_M) : rO := A_compares_j90 N 1 S
theorem A_compares_j85_e (N : Nat) (S : s_M) : A_compares_j85 N S = (A_compares_j90 N 1 S) := rfl
def A_compares (N : Nat) (S : s_M) : rO := bnd (A_any N 83 S) fun v8 S9 => bnd (A_any N 82 S9) fun v15 S16 => if (if (S9 0 49) = 0 then (if (S16 0 49) = 0 then (1 : Int) else 0 : Int) else 0) = 0 then (if (if (S9 0 49) = 0 then (1 : Int) else (if (S16 0 49) = 0 then (1 : Int) else 0)) = 0 then (bnd (A_same N 82 83 S16) fun v33 S34 => if v33 = 0 then (A_compares_j89 N  S34) else (A_compares_j85 N  S34)) else (A_compares_j89 N  S16)) else (if v8 = v15 then (A_compares_j85 N  S16) else (A_compares_j89 N  S16))
theorem A_compares_e (N : Nat) (S : s_M) : A_compares N S = (bnd (A_any N 83 S) fun v8 S9 => bnd (A_any N 82 S9) fun v15 S16 => if (if (S9 0 49) = 0 then (if (S16 0 49) = 0 then (1 : Int) else 0 : Int) else 0) = 0 then (if (if (S9 0 49) = 0 then (1 : Int) else (if (S16 0 49) = 0 then (1 : Int) else 0)) = 0 then (bnd (A_same N 82 83 S16) fun v33 S34 => if v33 = 0 then (A_compares_j89 N  S34) else (A_compares_j85 N  S34)) else (A_compares_j89 N  S16)) else (if v8 = v15 then (A_compares_j85 N  S16) else (A_compares_j89 N  S16))) := rfl
set_option maxHeartbeats 4000000 in
set_option maxRecDepth 100000 in
theorem a_compares (l : Launch) (D : va_G) {sh : s_S} {M0 M : s_M} {sz r  : Int} {N : Nat} {S S0 : s_M} {v0 : Int} (h : mq sh M0 M r S) (hF : A_compares N S = some (v0, S0)) : Sp l D y_Model_compares prog_14_method_58_code 6 none 4 0 0 [vr r] sh M sz (fun v' sh' M' sz' => v' = none ∧ sh' = sh ∧ sz' = sz ∧ mq sh M0 M' r S0) := by
  have hr0 := h.1.2.1
  refine Sp.ofGo (own := "CiteForgeModel") (nm := "compares") (by decide) rfl rfl (Nat.le_of_ble_eq_true rfl) (lv := [(0, vr r)]) rfl ?_
  intro g X
  have hJ90 : ∀ (y0 : Int) (S1 M1 : s_M), rI y0 → mq sh M0 M1 r S1 → A_compares_j90 N y0 S1 = some (v0, S0) → Go g 0 0 sh M1 sz 90 [(0, vr r)] [vi y0, vr r] := by
    intro y0 S1 M1 hy0 hm hF
    rw [A_compares_j90_e] at hF
    obtain ⟨v1, S2, hG3, hF4⟩ := bnd_t hF
    refine go_cV (st2 := []) (r := []) X k_Model_260 (a_giveNumber l D hm hy0 hG3) hm.1.1 rfl rfl (by decide) (Nat.le_of_ble_eq_true rfl) d_Model_compares_90 (by decide) (by decide) (fun v' sh' M5 sz' hpp => ?_)
    obtain ⟨e1, e2, e3, md6⟩ := hpp
    subst e1
    rw [e2, e3]
    clear e2 e3
    show Go g 0 0 sh M5 sz 93 [(0, vr r)] []
    exact go_vret X d_Model_compares_93 rfl (by decide) (by decide) (ret_v hF4 md6)
  have hJ89 : ∀ (S1 M1 : s_M), mq sh M0 M1 r S1 → A_compares_j89 N S1 = some (v0, S0) → Go g 0 0 sh M1 sz 89 [(0, vr r)] [vr r] := by
    intro S1 M1 hm hF
    rw [A_compares_j89_e] at hF
    refine go_iconst (v := 0) X d_Model_compares_89 ?_
    refine go_lv (lv' := [(0, vr r)]) X [0] rfl ?_
    exact hJ90 0 S1 M1 (by decide) hm hF
  have hJ85 : ∀ (S1 M1 : s_M), mq sh M0 M1 r S1 → A_compares_j85 N S1 = some (v0, S0) → Go g 0 0 sh M1 sz 85 [(0, vr r)] [vr r] := by
    intro S1 M1 hm hF
    rw [A_compares_j85_e] at hF
    refine go_iconst (v := 1) X d_Model_compares_85 ?_
    refine go_goto (tgt := 90) X d_Model_compares_86 rfl ?_
    refine go_lv (lv' := [(0, vr r)]) X [0] rfl ?_
    exact hJ90 1 S1 M1 (by decide) hm hF
  rw [A_compares_e] at hF
  refine go_aload_n X d_Model_compares_0 rfl rfl ?_
  refine go_bipush (v := 83) X d_Model_compares_1 (by decide) ?_
  obtain ⟨v8, S9, hG10, hF11⟩ := bnd_t hF
  refine go_cV (st2 := []) (r := []) X k_Model_269 (a_any l D h (by decide) hG10) h.1.1 rfl rfl (by decide) (Nat.le_of_ble_eq_true rfl) d_Model_compares_3 (by decide) (by decide) (fun v' sh' M12 sz' hpp => ?_)
  obtain ⟨e1, e2, e3, hv14, md13⟩ := hpp
  subst e1
  rw [e2, e3]
  clear e2 e3
  show Go g 0 0 sh M12 sz 6 [(0, vr r)] [vi v8]
  refine go_istore_n (lv' := [(1, vi v8), (0, vr r)]) X d_Model_compares_6 rfl (by decide) rfl ?_
  refine go_aload_n X d_Model_compares_7 rfl rfl ?_
  refine go_get (v := vi (S9 0 49)) X f_Model_257 md13.1.1 rfl d_Model_compares_8 (congrArg (s_v .int) ((md13.s 49).trans (rfl))) ?_
  refine go_istore_n (lv' := [(2, vi (S9 0 49)), (1, vi v8), (0, vr r)]) X d_Model_compares_11 rfl (by decide) rfl ?_
  refine go_aload_n X d_Model_compares_12 rfl rfl ?_
  refine go_bipush (v := 82) X d_Model_compares_13 (by decide) ?_
  obtain ⟨v15, S16, hG17, hF18⟩ := bnd_t hF11
  refine go_cV (st2 := []) (r := []) X k_Model_269 (a_any l D md13 (by decide) hG17) md13.1.1 rfl rfl (by decide) (Nat.le_of_ble_eq_true rfl) d_Model_compares_15 (by decide) (by decide) (fun v' sh' M19 sz' hpp => ?_)
  obtain ⟨e1, e2, e3, hv21, md20⟩ := hpp
  subst e1
  rw [e2, e3]
  clear e2 e3
  show Go g 0 0 sh M19 sz 18 [(2, vi (S9 0 49)), (1, vi v8), (0, vr r)] [vi v15]
  refine go_istore_n (lv' := [(3, vi v15), (2, vi (S9 0 49)), (1, vi v8), (0, vr r)]) X d_Model_compares_18 rfl (by decide) rfl ?_
  refine go_iload_n X d_Model_compares_19 rfl rfl ?_
  suffices hv22 : Go g 0 0 sh M19 sz 35 [(3, vi v15), (2, vi (S9 0 49)), (1, vi v8), (0, vr r)] [vi (if (S9 0 49) = 0 then (if (S16 0 49) = 0 then (1 : Int) else 0 : Int) else 0)] by
    refine go_if_ne (tgt := 34) X d_Model_compares_20 rfl (md13.gS 49 (by decide) (by decide)) (fun hq23 => ?_) (fun hq23 => ?_)
    · skip
      refine go_iconst (v := 0) X d_Model_compares_34 ?_
      refine go_top (v' := vi (if (S9 0 49) = 0 then (if (S16 0 49) = 0 then (1 : Int) else 0 : Int) else 0)) X (congrArg (fun q => vi q) (show 0 = if (S9 0 49) = 0 then (if (S16 0 49) = 0 then (1 : Int) else 0 : Int) else 0 from ((if_neg hq23)).symm)) ?_
      exact hv22
    · skip
      refine go_aload_n X d_Model_compares_23 rfl rfl ?_
      refine go_get (v := vi (S16 0 49)) X f_Model_257 md20.1.1 rfl d_Model_compares_24 (congrArg (s_v .int) ((md20.s 49).trans (rfl))) ?_
      refine go_if_ne (tgt := 34) X d_Model_compares_27 rfl (md20.gS 49 (by decide) (by decide)) (fun hq24 => ?_) (fun hq24 => ?_)
      · skip
        refine go_iconst (v := 0) X d_Model_compares_34 ?_
        refine go_top (v' := vi (if (S9 0 49) = 0 then (if (S16 0 49) = 0 then (1 : Int) else 0 : Int) else 0)) X (congrArg (fun q => vi q) (show 0 = if (S9 0 49) = 0 then (if (S16 0 49) = 0 then (1 : Int) else 0 : Int) else 0 from ((if_pos hq23).trans ((if_neg hq24))).symm)) ?_
        exact hv22
      · skip
        refine go_iconst (v := 1) X d_Model_compares_30 ?_
        refine go_goto (tgt := 35) X d_Model_compares_31 rfl ?_
        refine go_top (v' := vi (if (S9 0 49) = 0 then (if (S16 0 49) = 0 then (1 : Int) else 0 : Int) else 0)) X (congrArg (fun q => vi q) (show 1 = if (S9 0 49) = 0 then (if (S16 0 49) = 0 then (1 : Int) else 0 : Int) else 0 from ((if_pos hq23).trans ((if_pos hq24))).symm)) ?_
        exact hv22
  refine go_istore (lv' := [(4, vi (if (S9 0 49) = 0 then (if (S16 0 49) = 0 then (1 : Int) else 0 : Int) else 0)), (3, vi v15), (2, vi (S9 0 49)), (1, vi v8), (0, vr r)]) X d_Model_compares_35 (by decide) rfl ?_
  refine go_iload_n X d_Model_compares_37 rfl rfl ?_
  suffices hv25 : Go g 0 0 sh M19 sz 53 [(4, vi (if (S9 0 49) = 0 then (if (S16 0 49) = 0 then (1 : Int) else 0 : Int) else 0)), (3, vi v15), (2, vi (S9 0 49)), (1, vi v8), (0, vr r)] [vi (if (S9 0 49) = 0 then (1 : Int) else (if (S16 0 49) = 0 then (1 : Int) else 0))] by
    refine go_if_eq (tgt := 48) X d_Model_compares_38 rfl (md13.gS 49 (by decide) (by decide)) (fun hq26 => ?_) (fun hq26 => ?_)
    · skip
      refine go_iconst (v := 1) X d_Model_compares_48 ?_
      refine go_goto (tgt := 53) X d_Model_compares_49 rfl ?_
      refine go_top (v' := vi (if (S9 0 49) = 0 then (1 : Int) else (if (S16 0 49) = 0 then (1 : Int) else 0))) X (congrArg (fun q => vi q) (show 1 = if (S9 0 49) = 0 then (1 : Int) else (if (S16 0 49) = 0 then (1 : Int) else 0) from ((if_pos hq26)).symm)) ?_
      exact hv25
    · skip
      refine go_aload_n X d_Model_compares_41 rfl rfl ?_
      refine go_get (v := vi (S16 0 49)) X f_Model_257 md20.1.1 rfl d_Model_compares_42 (congrArg (s_v .int) ((md20.s 49).trans (rfl))) ?_
      refine go_if_ne (tgt := 52) X d_Model_compares_45 rfl (md20.gS 49 (by decide) (by decide)) (fun hq27 => ?_) (fun hq27 => ?_)
      · skip
        refine go_iconst (v := 0) X d_Model_compares_52 ?_
        refine go_top (v' := vi (if (S9 0 49) = 0 then (1 : Int) else (if (S16 0 49) = 0 then (1 : Int) else 0))) X (congrArg (fun q => vi q) (show 0 = if (S9 0 49) = 0 then (1 : Int) else (if (S16 0 49) = 0 then (1 : Int) else 0) from ((if_neg hq26).trans ((if_neg hq27))).symm)) ?_
        exact hv25
      · skip
        refine go_iconst (v := 1) X d_Model_compares_48 ?_
        refine go_goto (tgt := 53) X d_Model_compares_49 rfl ?_
        refine go_top (v' := vi (if (S9 0 49) = 0 then (1 : Int) else (if (S16 0 49) = 0 then (1 : Int) else 0))) X (congrArg (fun q => vi q) (show 1 = if (S9 0 49) = 0 then (1 : Int) else (if (S16 0 49) = 0 then (1 : Int) else 0) from ((if_neg hq26).trans ((if_pos hq27))).symm)) ?_
        exact hv25
  refine go_istore (lv' := [(5, vi (if (S9 0 49) = 0 then (1 : Int) else (if (S16 0 49) = 0 then (1 : Int) else 0))), (4, vi (if (S9 0 49) = 0 then (if (S16 0 49) = 0 then (1 : Int) else 0 : Int) else 0)), (3, vi v15), (2, vi (S9 0 49)), (1, vi v8), (0, vr r)]) X d_Model_compares_53 (by decide) rfl ?_
  refine go_aload_n X d_Model_compares_55 rfl rfl ?_
  refine go_iload X d_Model_compares_56 rfl ?_
  refine go_if_eq (tgt := 69) X d_Model_compares_58 rfl (rI_ite (rI_ite (by decide) (by decide)) (by decide)) (fun hq28 => ?_) (fun hq28 => ?_)
  · skip
    have hF29 := if_t hF18 hq28
    refine go_iload X d_Model_compares_69 rfl ?_
    refine go_if_ne (tgt := 89) X d_Model_compares_71 rfl (rI_ite (by decide) (rI_ite (by decide) (by decide))) (fun hq30 => ?_) (fun hq30 => ?_)
    · skip
      have hF31 := if_f hF29 hq30
      refine go_lv (lv' := [(0, vr r)]) X [5] rfl ?_
      exact hJ89  S16 M19  md20 hF31
    · skip
      have hF32 := if_t hF29 hq30
      refine go_aload_n X d_Model_compares_74 rfl rfl ?_
      refine go_bipush (v := 82) X d_Model_compares_75 (by decide) ?_
      refine go_bipush (v := 83) X d_Model_compares_77 (by decide) ?_
      obtain ⟨v33, S34, hG35, hF36⟩ := bnd_t hF32
      refine go_cV (st2 := []) (r := [vr r]) X k_Model_272 (a_same l D md20 (by decide) (by decide) hG35) md20.1.1 rfl rfl (by decide) (Nat.le_of_ble_eq_true rfl) d_Model_compares_79 (by decide) (by decide) (fun v' sh' M37 sz' hpp => ?_)
      obtain ⟨e1, e2, e3, hv39, md38⟩ := hpp
      subst e1
      rw [e2, e3]
      clear e2 e3
      show Go g 0 0 sh M37 sz 82 [(5, vi (if (S9 0 49) = 0 then (1 : Int) else (if (S16 0 49) = 0 then (1 : Int) else 0))), (4, vi (if (S9 0 49) = 0 then (if (S16 0 49) = 0 then (1 : Int) else 0 : Int) else 0)), (3, vi v15), (2, vi (S9 0 49)), (1, vi v8), (0, vr r)] [vi v33, vr r]
      refine go_if_eq (tgt := 89) X d_Model_compares_82 rfl hv39 (fun hq40 => ?_) (fun hq40 => ?_)
      · skip
        have hF41 := if_t hF36 hq40
        refine go_lv (lv' := [(0, vr r)]) X [5] rfl ?_
        exact hJ89  S34 M37  md38 hF41
      · skip
        have hF42 := if_f hF36 hq40
        refine go_lv (lv' := [(0, vr r)]) X [5] rfl ?_
        exact hJ85  S34 M37  md38 hF42
  · skip
    have hF43 := if_f hF18 hq28
    refine go_iload_n X d_Model_compares_61 rfl rfl ?_
    refine go_iload_n X d_Model_compares_62 rfl rfl ?_
    refine go_icmp_ne (tgt := 89) X d_Model_compares_63 rfl hv14 hv21 (fun hq44 => ?_) (fun hq44 => ?_)
    · skip
      have hF45 := if_f hF43 hq44
      refine go_lv (lv' := [(0, vr r)]) X [5] rfl ?_
      exact hJ89  S16 M19  md20 hF45
    · skip
      have hF46 := if_t hF43 hq44
      refine go_goto (tgt := 85) X d_Model_compares_66 rfl ?_
      refine go_lv (lv' := [(0, vr r)]) X [5] rfl ?_
      exact hJ85  S16 M19  md20 hF46
def A_empties_j54 (N : Nat) (k22 : Int → Int → s_M → rO) (x2 y0 : Int) (S : s_M) : rO := chk (rI (x2 + 1)) <| k22 y0 (x2 + 1) S
theorem A_empties_j54_e (N : Nat) (k22 : Int → Int → s_M → rO) (x2 y0 : Int) (S : s_M) : A_empties_j54 N k22 x2 y0 S = (chk (rI (x2 + 1)) <| k22 y0 (x2 + 1) S) := rfl
def A_empties_j53 (N : Nat) (k22 : Int → Int → s_M → rO) (x2 : Int) (S : s_M) : rO := A_empties_j54 N k22 x2 0 S
theorem A_empties_j53_e (N : Nat) (k22 : Int → Int → s_M → rO) (x2 : Int) (S : s_M) : A_empties_j53 N k22 x2 S = (A_empties_j54 N k22 x2 0 S) := rfl
def A_empties_l22 (N : Nat) : Nat → Int → Int → s_M → rO
  | 0, _, _, _ => none
  | n + 1, x1, x2, S => if x2 < (S 3 82) then (if x1 = 0 then (A_empties_j53 N (A_empties_l22 N n) x2 S) else (bnd (A_at N 82 x2 S) fun v18 S19 => if v18 = 32 then (A_empties_j54 N (A_empties_l22 N n) x2 1 S19) else (A_empties_j53 N (A_empties_l22 N n) x2 S19))) else (bnd (A_giveNumber N (if x1 = 0 then (0 : Int) else 1) S) fun v7 S8 => some (0, S8))
theorem A_empties_l22_e (N : Nat) (n : Nat) (x1 x2 : Int) (S : s_M) : A_empties_l22 N (n + 1) x1 x2 S = (if x2 < (S 3 82) then (if x1 = 0 then (A_empties_j53 N (A_empties_l22 N n) x2 S) else (bnd (A_at N 82 x2 S) fun v18 S19 => if v18 = 32 then (A_empties_j54 N (A_empties_l22 N n) x2 1 S19) else (A_empties_j53 N (A_empties_l22 N n) x2 S19))) else (bnd (A_giveNumber N (if x1 = 0 then (0 : Int) else 1) S) fun v7 S8 => some (0, S8))) := rfl
def A_empties (N : Nat) (S : s_M) : rO := bnd (A_any N 82 S) fun v28 S29 => A_empties_l22 N N (if (S29 0 49) = 0 then (0 : Int) else 1) 0 S29
theorem A_empties_e (N : Nat) (S : s_M) : A_empties N S = (bnd (A_any N 82 S) fun v28 S29 => A_empties_l22 N N (if (S29 0 49) = 0 then (0 : Int) else 1) 0 S29) := rfl
set_option maxHeartbeats 4000000 in
set_option maxRecDepth 100000 in
theorem a_empties (l : Launch) (D : va_G) {sh : s_S} {M0 M : s_M} {sz r  : Int} {N : Nat} {S S0 : s_M} {v0 : Int} (h : mq sh M0 M r S) (hF : A_empties N S = some (v0, S0)) : Sp l D y_Model_empties prog_14_method_63_code 3 none 4 0 0 [vr r] sh M sz (fun v' sh' M' sz' => v' = none ∧ sh' = sh ∧ sz' = sz ∧ mq sh M0 M' r S0) := by
  have hr0 := h.1.2.1
  refine Sp.ofGo (own := "CiteForgeModel") (nm := "empties") (by decide) rfl rfl (Nat.le_of_ble_eq_true rfl) (lv := [(0, vr r)]) rfl ?_
  intro g X
  have hL22 : ∀ (n22 : Nat) (x1 x2 : Int) (S1 M1 : s_M), rI x1 → rI x2 → mq sh M0 M1 r S1 → A_empties_l22 N n22 x1 x2 S1 = some (v0, S0) → Go g 0 0 sh M1 sz 22 [(0, vr r), (1, vi x1), (2, vi x2)] [] := by
    intro n22
    induction n22 with
    | zero => intro x1 x2 S1 M1 hx1 hx2 hm hF; cases hF
    | succ n22 ih22 =>
      have hJ54 : ∀ (x2 y0 : Int) (S1 M1 : s_M), rI x2 → rI y0 → mq sh M0 M1 r S1 → A_empties_j54 N (A_empties_l22 N n22) x2 y0 S1 = some (v0, S0) → Go g 0 0 sh M1 sz 54 [(0, vr r), (2, vi x2)] [vi y0] := by
        intro x2 y0 S1 M1 hx2 hy0 hm hF
        rw [A_empties_j54_e] at hF
        refine go_istore_n (lv' := [(1, vi y0), (0, vr r), (2, vi x2)]) X d_Model_empties_54 rfl (by decide) rfl ?_
        obtain ⟨hc1, hF2⟩ := chk_t hF
        refine go_iinc (v := 1) (x := x2) (lv' := [(2, vi (x2 + 1)), (1, vi y0), (0, vr r)]) X d_Model_empties_55 rfl (by decide) rfl ?_
        refine go_goto (tgt := 22) X d_Model_empties_58 rfl ?_
        refine go_lv (lv' := [(0, vr r), (1, vi y0), (2, vi (x2 + 1))]) X [2, 1, 0] rfl ?_
        exact ih22 y0 (x2 + 1) S1 M1 hy0 hc1 hm hF2
      have hJ53 : ∀ (x2 : Int) (S1 M1 : s_M), rI x2 → mq sh M0 M1 r S1 → A_empties_j53 N (A_empties_l22 N n22) x2 S1 = some (v0, S0) → Go g 0 0 sh M1 sz 53 [(0, vr r), (2, vi x2)] [] := by
        intro x2 S1 M1 hx2 hm hF
        rw [A_empties_j53_e] at hF
        refine go_iconst (v := 0) X d_Model_empties_53 ?_
        refine go_lv (lv' := [(0, vr r), (2, vi x2)]) X [0, 1] rfl ?_
        exact hJ54 x2 0 S1 M1 hx2 (by decide) hm hF
      intro x1 x2 S1 M1 hx1 hx2 hm hF
      rw [A_empties_l22_e] at hF
      refine go_iload_n X d_Model_empties_22 rfl rfl ?_
      refine go_aload_n X d_Model_empties_23 rfl rfl ?_
      refine go_get (v := vr (r + 3)) X f_Model_16 hm.1.1 rfl d_Model_empties_24 (s_varr (hm.1.2.2 2 _ rfl).2 (by omega)) ?_
      refine go_bipush (v := 82) X d_Model_empties_27 (by decide) ?_
      refine go_iald X (hm.1.2.2 2 _ rfl).1 (by decide) (by decide) d_Model_empties_29 ?_
      refine go_top (v' := vi (S1 3 82)) X (congrArg (fun q => vi q) ((hm.a (by decide) 82).trans (rfl))) ?_
      refine go_icmp_ge (tgt := 61) X d_Model_empties_30 rfl hx2 (hm.gA (by decide) 82) (fun hq3 => ?_) (fun hq3 => ?_)
      · skip
        have hF4 := if_f hF (Int.not_lt.mpr hq3)
        refine go_aload_n X d_Model_empties_61 rfl rfl ?_
        refine go_iload_n X d_Model_empties_62 rfl rfl ?_
        suffices hv5 : Go g 0 0 sh M1 sz 71 [(0, vr r), (1, vi x1), (2, vi x2)] [vi (if x1 = 0 then (0 : Int) else 1), vr r] by
          refine go_if_eq (tgt := 70) X d_Model_empties_63 rfl hx1 (fun hq6 => ?_) (fun hq6 => ?_)
          · skip
            refine go_iconst (v := 0) X d_Model_empties_70 ?_
            refine go_top (v' := vi (if x1 = 0 then (0 : Int) else 1)) X (congrArg (fun q => vi q) (show 0 = if x1 = 0 then (0 : Int) else 1 from ((if_pos hq6)).symm)) ?_
            exact hv5
          · skip
            refine go_iconst (v := 1) X d_Model_empties_66 ?_
            refine go_goto (tgt := 71) X d_Model_empties_67 rfl ?_
            refine go_top (v' := vi (if x1 = 0 then (0 : Int) else 1)) X (congrArg (fun q => vi q) (show 1 = if x1 = 0 then (0 : Int) else 1 from ((if_neg hq6)).symm)) ?_
            exact hv5
        obtain ⟨v7, S8, hG9, hF10⟩ := bnd_t hF4
        refine go_cV (st2 := []) (r := []) X k_Model_260 (a_giveNumber l D hm (rI_ite (by decide) (by decide)) hG9) hm.1.1 rfl rfl (by decide) (Nat.le_of_ble_eq_true rfl) d_Model_empties_71 (by decide) (by decide) (fun v' sh' M11 sz' hpp => ?_)
        obtain ⟨e1, e2, e3, md12⟩ := hpp
        subst e1
        rw [e2, e3]
        clear e2 e3
        show Go g 0 0 sh M11 sz 74 [(0, vr r), (1, vi x1), (2, vi x2)] []
        exact go_vret X d_Model_empties_74 rfl (by decide) (by decide) (ret_v hF10 md12)
      · skip
        have hF14 := if_t hF hq3
        refine go_iload_n X d_Model_empties_33 rfl rfl ?_
        refine go_if_eq (tgt := 53) X d_Model_empties_34 rfl hx1 (fun hq15 => ?_) (fun hq15 => ?_)
        · skip
          have hF16 := if_t hF14 hq15
          refine go_lv (lv' := [(0, vr r), (2, vi x2)]) X [0, 2] rfl ?_
          exact hJ53 x2 S1 M1 hx2 hm hF16
        · skip
          have hF17 := if_f hF14 hq15
          refine go_aload_n X d_Model_empties_37 rfl rfl ?_
          refine go_bipush (v := 82) X d_Model_empties_38 (by decide) ?_
          refine go_iload_n X d_Model_empties_40 rfl rfl ?_
          obtain ⟨v18, S19, hG20, hF21⟩ := bnd_t hF17
          refine go_cV (st2 := []) (r := []) X k_Model_99 (a_at l D hm (by decide) hx2 hG20) hm.1.1 rfl rfl (by decide) (Nat.le_of_ble_eq_true rfl) d_Model_empties_41 (by decide) (by decide) (fun v' sh' M22 sz' hpp => ?_)
          obtain ⟨e1, e2, e3, hv24, md23⟩ := hpp
          subst e1
          rw [e2, e3]
          clear e2 e3
          show Go g 0 0 sh M22 sz 44 [(0, vr r), (1, vi x1), (2, vi x2)] [vi v18]
          refine go_bipush (v := 32) X d_Model_empties_44 (by decide) ?_
          refine go_icmp_ne (tgt := 53) X d_Model_empties_46 rfl hv24 (by decide) (fun hq25 => ?_) (fun hq25 => ?_)
          · skip
            have hF26 := if_f hF21 hq25
            refine go_lv (lv' := [(0, vr r), (2, vi x2)]) X [0, 2] rfl ?_
            exact hJ53 x2 S19 M22 hx2 md23 hF26
          · skip
            have hF27 := if_t hF21 hq25
            refine go_iconst (v := 1) X d_Model_empties_49 ?_
            refine go_goto (tgt := 54) X d_Model_empties_50 rfl ?_
            refine go_lv (lv' := [(0, vr r), (2, vi x2)]) X [0, 2] rfl ?_
            exact hJ54 x2 1 S19 M22 hx2 (by decide) md23 hF27
  rw [A_empties_e] at hF
  refine go_aload_n X d_Model_empties_0 rfl rfl ?_
  refine go_bipush (v := 82) X d_Model_empties_1 (by decide) ?_
  obtain ⟨v28, S29, hG30, hF31⟩ := bnd_t hF
  refine go_cV (st2 := []) (r := []) X k_Model_269 (a_any l D h (by decide) hG30) h.1.1 rfl rfl (by decide) (Nat.le_of_ble_eq_true rfl) d_Model_empties_3 (by decide) (by decide) (fun v' sh' M32 sz' hpp => ?_)
  obtain ⟨e1, e2, e3, hv34, md33⟩ := hpp
  subst e1
  rw [e2, e3]
  clear e2 e3
  show Go g 0 0 sh M32 sz 6 [(0, vr r)] [vi v28]
  refine go_pop X d_Model_empties_6 rfl ?_
  refine go_aload_n X d_Model_empties_7 rfl rfl ?_
  refine go_get (v := vi (S29 0 49)) X f_Model_257 md33.1.1 rfl d_Model_empties_8 (congrArg (s_v .int) ((md33.s 49).trans (rfl))) ?_
  suffices hv35 : Go g 0 0 sh M32 sz 19 [(0, vr r)] [vi (if (S29 0 49) = 0 then (0 : Int) else 1)] by
    refine go_if_eq (tgt := 18) X d_Model_empties_11 rfl (md33.gS 49 (by decide) (by decide)) (fun hq36 => ?_) (fun hq36 => ?_)
    · skip
      refine go_iconst (v := 0) X d_Model_empties_18 ?_
      refine go_top (v' := vi (if (S29 0 49) = 0 then (0 : Int) else 1)) X (congrArg (fun q => vi q) (show 0 = if (S29 0 49) = 0 then (0 : Int) else 1 from ((if_pos hq36)).symm)) ?_
      exact hv35
    · skip
      refine go_iconst (v := 1) X d_Model_empties_14 ?_
      refine go_goto (tgt := 19) X d_Model_empties_15 rfl ?_
      refine go_top (v' := vi (if (S29 0 49) = 0 then (0 : Int) else 1)) X (congrArg (fun q => vi q) (show 1 = if (S29 0 49) = 0 then (0 : Int) else 1 from ((if_neg hq36)).symm)) ?_
      exact hv35
  refine go_istore_n (lv' := [(1, vi (if (S29 0 49) = 0 then (0 : Int) else 1)), (0, vr r)]) X d_Model_empties_19 rfl (by decide) rfl ?_
  refine go_iconst (v := 0) X d_Model_empties_20 ?_
  refine go_istore_n (lv' := [(2, vi 0), (1, vi (if (S29 0 49) = 0 then (0 : Int) else 1)), (0, vr r)]) X d_Model_empties_21 rfl (by decide) rfl ?_
  refine go_lv (lv' := [(0, vr r), (1, vi (if (S29 0 49) = 0 then (0 : Int) else 1)), (2, vi 0)]) X [2, 1, 0] rfl ?_
  exact hL22 N (if (S29 0 49) = 0 then (0 : Int) else 1) 0 S29 M32 (rI_ite (by decide) (by decide)) (by decide) md33 hF31
