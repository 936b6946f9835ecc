def A_warnings_j29 (N : Nat) (y0 : Int) (S : s_M) : rO := some (y0, S)
theorem A_warnings_j29_e (N : Nat) (y0 : Int) (S : s_M) : A_warnings_j29 N y0 S = (some (y0, S)) := rfl
def A_warnings (N : Nat) (x1 : Int) (S : s_M) : rO := if (decide (1 ≤ x1 ∧ x1 ≤ 9)) = true then (chk (0 ≤ x1 ∧ x1 < 10) <| A_warnings_j29 N (S 1 x1) (m_s S 0 0 0)) else (bnd (A_fail N 1 (m_s S 0 0 0)) fun v5 S6 => A_warnings_j29 N v5 S6)
theorem A_warnings_e (N : Nat) (x1 : Int) (S : s_M) : A_warnings N x1 S = (if (decide (1 ≤ x1 ∧ x1 ≤ 9)) = true then (chk (0 ≤ x1 ∧ x1 < 10) <| A_warnings_j29 N (S 1 x1) (m_s S 0 0 0)) else (bnd (A_fail N 1 (m_s S 0 0 0)) fun v5 S6 => A_warnings_j29 N v5 S6)) := rfl
set_option maxHeartbeats 4000000 in
set_option maxRecDepth 100000 in
theorem a_warnings (l : Launch) (D : va_G) {sh : s_S} {M0 M : s_M} {sz r x1 : Int} {N : Nat} {S S0 : s_M} {v0 : Int} (h : mq sh M0 M r S) (hx1 : rI x1) (hF : A_warnings N x1 S = some (v0, S0)) : Sp l D y_Model_warnings prog_14_method_96_code 2 (some .int) 2 0 0 [vr r, vi x1] sh M sz (fun v' sh' M' sz' => v' = some (vi v0) ∧ sh' = sh ∧ sz' = sz ∧ rI v0 ∧ mq sh M0 M' r S0) := by
  have hr0 := h.1.2.1
  refine Sp.ofGo (own := "CiteForgeModel") (nm := "warnings") (by decide) rfl rfl (Nat.le_of_ble_eq_true rfl) (lv := [(0, vr r), (1, vi x1)]) rfl ?_
  intro g X
  have hJ29 : ∀ (y0 : Int) (S1 M1 : s_M), rI y0 → mq sh M0 M1 r S1 → A_warnings_j29 N y0 S1 = some (v0, S0) → Go g 0 0 sh M1 sz 29 [(0, vr r)] [vi y0] := by
    intro y0 S1 M1 hy0 hm hF
    rw [A_warnings_j29_e] at hF
    exact go_iret X d_Model_warnings_29 rfl rfl (by decide) (by decide) (ret_i hF hy0 hm)
  rw [A_warnings_e] at hF
  refine go_aload_n X d_Model_warnings_0 rfl rfl ?_
  refine go_iconst (v := 0) X d_Model_warnings_1 ?_
  refine go_put (x := 0) (v := vi 0) X f_Model_95 h.1.1 rfl d_Model_warnings_2 rfl rfl rfl ?_
  have md1 : mq sh M0 (m_s M r 0 0) r (m_s S 0 0 0) := h.put0 (by decide) ((rg_S (by decide) (by decide) (by decide)))
  generalize m_s M r 0 0 = M2 at md1 ⊢
  refine go_iload_n X d_Model_warnings_5 rfl rfl ?_
  refine go_iconst (v := 1) X d_Model_warnings_6 ?_
  refine go_bipush (v := 9) X d_Model_warnings_7 (by decide) ?_
  refine go_cSf (st2 := [vi (s_b (decide (1 ≤ x1 ∧ x1 ≤ 9)))]) (r := []) X k_Model_103 (m_within l D hx1 (by decide) (by decide)) rfl rfl (by decide) (Nat.le_of_ble_eq_true rfl) d_Model_warnings_9 (by decide) (by decide) rfl ?_
  refine go_ifb_eq (tgt := 24) X d_Model_warnings_12 rfl (fun hq3 => ?_) (fun hq3 => ?_)
  · skip
    have hF4 := if_f hF (bnf hq3)
    refine go_aload_n X d_Model_warnings_24 rfl rfl ?_
    refine go_iconst (v := 1) X d_Model_warnings_25 ?_
    obtain ⟨v5, S6, hG7, hF8⟩ := bnd_t hF4
    refine go_cV (st2 := []) (r := []) X k_Model_128 (a_fail l D md1 (by decide) hG7) md1.1.1 rfl rfl (by decide) (Nat.le_of_ble_eq_true rfl) d_Model_warnings_26 (by decide) (by decide) (fun v' sh' M9 sz' hpp => ?_)
    obtain ⟨e1, e2, e3, hv11, md10⟩ := hpp
    subst e1
    rw [e2, e3]
    clear e2 e3
    show Go g 0 0 sh M9 sz 29 [(0, vr r), (1, vi x1)] [vi v5]
    refine go_lv (lv' := [(0, vr r)]) X [0] rfl ?_
    exact hJ29 v5 S6 M9 hv11 md10 hF8
  · skip
    have hF12 := if_t hF hq3
    refine go_aload_n X d_Model_warnings_15 rfl rfl ?_
    refine go_get (v := vr (r + 1)) X f_Model_7 md1.1.1 rfl d_Model_warnings_16 (s_varr (md1.1.2.2 0 _ rfl).2 (by omega)) ?_
    refine go_iload_n X d_Model_warnings_19 rfl rfl ?_
    obtain ⟨hc13, hF14⟩ := chk_t hF12
    refine go_iald X (md1.1.2.2 0 _ rfl).1 (by decide) hc13 d_Model_warnings_20 ?_
    refine go_top (v' := vi (S 1 x1)) X (congrArg (fun q => vi q) ((md1.a (by decide) x1).trans ((m_sk (by decide)).trans (rfl)))) ?_
    refine go_goto (tgt := 29) X d_Model_warnings_21 rfl ?_
    refine go_lv (lv' := [(0, vr r)]) X [0] rfl ?_
    exact hJ29 (S 1 x1) (m_s S 0 0 0) M2 (rI_eq (md1.gA (by decide) x1) ((m_sk (by decide)).trans (rfl))) md1 hF14
