def A_giveAny_j29 (N : Nat) (S : s_M) : rO := some (0, S)
theorem A_giveAny_j29_e (N : Nat) (S : s_M) : A_giveAny_j29 N S = (some (0, S)) := rfl
def A_giveAny (N : Nat) (x1 x2 x3 : Int) (S : s_M) : rO := if x1 = 0 then (bnd (A_giveNumber N x2 S) fun v21 S22 => A_giveAny_j29 N  S22) else (if x1 = 1 then (bnd (A_giveText N x3 S) fun v13 S14 => A_giveAny_j29 N  S14) else (bnd (A_giveMissing N S) fun v5 S6 => A_giveAny_j29 N  S6))
theorem A_giveAny_e (N : Nat) (x1 x2 x3 : Int) (S : s_M) : A_giveAny N x1 x2 x3 S = (if x1 = 0 then (bnd (A_giveNumber N x2 S) fun v21 S22 => A_giveAny_j29 N  S22) else (if x1 = 1 then (bnd (A_giveText N x3 S) fun v13 S14 => A_giveAny_j29 N  S14) else (bnd (A_giveMissing N S) fun v5 S6 => A_giveAny_j29 N  S6))) := rfl
set_option maxHeartbeats 4000000 in
set_option maxRecDepth 100000 in
theorem a_giveAny (l : Launch) (D : va_G) {sh : s_S} {M0 M : s_M} {sz r x1 x2 x3 : Int} {N : Nat} {S S0 : s_M} {v0 : Int} (h : mq sh M0 M r S) (hx1 : rI x1) (hx2 : rI x2) (hx3 : rI x3) (hF : A_giveAny N x1 x2 x3 S = some (v0, S0)) : Sp l D y_Model_giveAny prog_14_method_56_code 4 none 4 0 0 [vr r, vi x1, vi x2, vi x3] sh M sz (fun v' sh' M' sz' => v' = none ∧ sh' = sh ∧ sz' = sz ∧ mq sh M0 M' r S0) := by
  have hr0 := h.1.2.1
  refine Sp.ofGo (own := "CiteForgeModel") (nm := "giveAny") (by decide) rfl rfl (Nat.le_of_ble_eq_true rfl) (lv := [(0, vr r), (1, vi x1), (2, vi x2), (3, vi x3)]) rfl ?_
  intro g X
  have hJ29 : ∀ (S1 M1 : s_M), mq sh M0 M1 r S1 → A_giveAny_j29 N S1 = some (v0, S0) → Go g 0 0 sh M1 sz 29 [(0, vr r)] [] := by
    intro S1 M1 hm hF
    rw [A_giveAny_j29_e] at hF
    exact go_vret X d_Model_giveAny_29 rfl (by decide) (by decide) (ret_v hF hm)
  rw [A_giveAny_e] at hF
  refine go_iload_n X d_Model_giveAny_0 rfl rfl ?_
  refine go_if_ne (tgt := 12) X d_Model_giveAny_1 rfl hx1 (fun hq1 => ?_) (fun hq1 => ?_)
  · skip
    have hF2 := if_f hF hq1
    refine go_iload_n X d_Model_giveAny_12 rfl rfl ?_
    refine go_iconst (v := 1) X d_Model_giveAny_13 ?_
    refine go_icmp_ne (tgt := 25) X d_Model_giveAny_14 rfl hx1 (by decide) (fun hq3 => ?_) (fun hq3 => ?_)
    · skip
      have hF4 := if_f hF2 hq3
      refine go_aload_n X d_Model_giveAny_25 rfl rfl ?_
      obtain ⟨v5, S6, hG7, hF8⟩ := bnd_t hF4
      refine go_cV (st2 := []) (r := []) X k_Model_266 (a_giveMissing l D h hG7) h.1.1 rfl rfl (by decide) (Nat.le_of_ble_eq_true rfl) d_Model_giveAny_26 (by decide) (by decide) (fun v' sh' M9 sz' hpp => ?_)
      obtain ⟨e1, e2, e3, md10⟩ := hpp
      subst e1
      rw [e2, e3]
      clear e2 e3
      show Go g 0 0 sh M9 sz 29 [(0, vr r), (1, vi x1), (2, vi x2), (3, vi x3)] []
      refine go_lv (lv' := [(0, vr r)]) X [0] rfl ?_
      exact hJ29  S6 M9  md10 hF8
    · skip
      have hF12 := if_t hF2 hq3
      refine go_aload_n X d_Model_giveAny_17 rfl rfl ?_
      refine go_iload_n X d_Model_giveAny_18 rfl rfl ?_
      obtain ⟨v13, S14, hG15, hF16⟩ := bnd_t hF12
      refine go_cV (st2 := []) (r := []) X k_Model_263 (a_giveText l D h hx3 hG15) h.1.1 rfl rfl (by decide) (Nat.le_of_ble_eq_true rfl) d_Model_giveAny_19 (by decide) (by decide) (fun v' sh' M17 sz' hpp => ?_)
      obtain ⟨e1, e2, e3, md18⟩ := hpp
      subst e1
      rw [e2, e3]
      clear e2 e3
      show Go g 0 0 sh M17 sz 22 [(0, vr r), (1, vi x1), (2, vi x2), (3, vi x3)] []
      refine go_goto (tgt := 29) X d_Model_giveAny_22 rfl ?_
      refine go_lv (lv' := [(0, vr r)]) X [0] rfl ?_
      exact hJ29  S14 M17  md18 hF16
  · skip
    have hF20 := if_t hF hq1
    refine go_aload_n X d_Model_giveAny_4 rfl rfl ?_
    refine go_iload_n X d_Model_giveAny_5 rfl rfl ?_
    obtain ⟨v21, S22, hG23, hF24⟩ := bnd_t hF20
    refine go_cV (st2 := []) (r := []) X k_Model_260 (a_giveNumber l D h hx2 hG23) h.1.1 rfl rfl (by decide) (Nat.le_of_ble_eq_true rfl) d_Model_giveAny_6 (by decide) (by decide) (fun v' sh' M25 sz' hpp => ?_)
    obtain ⟨e1, e2, e3, md26⟩ := hpp
    subst e1
    rw [e2, e3]
    clear e2 e3
    show Go g 0 0 sh M25 sz 9 [(0, vr r), (1, vi x1), (2, vi x2), (3, vi x3)] []
    refine go_goto (tgt := 29) X d_Model_giveAny_9 rfl ?_
    refine go_lv (lv' := [(0, vr r)]) X [0] rfl ?_
    exact hJ29  S22 M25  md26 hF24
def A_exchanges_j26 (N : Nat) (x1 x2 x3 y0 : Int) (S : s_M) : rO := bnd (A_giveAny N x3 x2 83 S) fun v3 S4 => bnd (A_giveAny N (if x1 = 0 then (S 0 49 : Int) else x3) y0 (if x1 = 0 then (82 : Int) else 83) S4) fun v12 S13 => some (0, S13)
theorem A_exchanges_j26_e (N : Nat) (x1 x2 x3 y0 : Int) (S : s_M) : A_exchanges_j26 N x1 x2 x3 y0 S = (bnd (A_giveAny N x3 x2 83 S) fun v3 S4 => bnd (A_giveAny N (if x1 = 0 then (S 0 49 : Int) else x3) y0 (if x1 = 0 then (82 : Int) else 83) S4) fun v12 S13 => some (0, S13)) := rfl
def A_exchanges (N : Nat) (x1 : Int) (S : s_M) : rO := bnd (A_any N 83 S) fun v19 S20 => if x1 = 0 then (bnd (A_any N 82 S20) fun v28 S29 => A_exchanges_j26 N x1 v19 (S20 0 49) v28 S29) else (A_exchanges_j26 N x1 v19 (S20 0 49) v19 S20)
theorem A_exchanges_e (N : Nat) (x1 : Int) (S : s_M) : A_exchanges N x1 S = (bnd (A_any N 83 S) fun v19 S20 => if x1 = 0 then (bnd (A_any N 82 S20) fun v28 S29 => A_exchanges_j26 N x1 v19 (S20 0 49) v28 S29) else (A_exchanges_j26 N x1 v19 (S20 0 49) v19 S20)) := rfl
set_option maxHeartbeats 4000000 in
set_option maxRecDepth 100000 in
theorem a_exchanges (l : Launch) (D : va_G) {sh : s_S} {M0 M : s_M} {sz r x1 : Int} {N : Nat} {S S0 : s_M} {v0 : Int} (h : mq sh M0 M r S) (hx1 : rI x1) (hF : A_exchanges N x1 S = some (v0, S0)) : Sp l D y_Model_exchanges prog_14_method_59_code 6 none 5 0 0 [vr r, vi x1] sh M sz (fun v' sh' M' sz' => v' = none ∧ sh' = sh ∧ sz' = sz ∧ mq sh M0 M' r S0) := by
  have hr0 := h.1.2.1
  refine Sp.ofGo (own := "CiteForgeModel") (nm := "exchanges") (by decide) rfl rfl (Nat.le_of_ble_eq_true rfl) (lv := [(0, vr r), (1, vi x1)]) rfl ?_
  intro g X
  have hJ26 : ∀ (x1 x2 x3 y0 : Int) (S1 M1 : s_M), rI x1 → rI x2 → rI x3 → rI y0 → mq sh M0 M1 r S1 → A_exchanges_j26 N x1 x2 x3 y0 S1 = some (v0, S0) → Go g 0 0 sh M1 sz 26 [(0, vr r), (1, vi x1), (2, vi x2), (3, vi x3)] [vi y0] := by
    intro x1 x2 x3 y0 S1 M1 hx1 hx2 hx3 hy0 hm hF
    rw [A_exchanges_j26_e] at hF
    refine go_istore (lv' := [(4, vi y0), (0, vr r), (1, vi x1), (2, vi x2), (3, vi x3)]) X d_Model_exchanges_26 (by decide) rfl ?_
    refine go_iload_n X d_Model_exchanges_28 rfl rfl ?_
    suffices hv1 : Go g 0 0 sh M1 sz 40 [(4, vi y0), (0, vr r), (1, vi x1), (2, vi x2), (3, vi x3)] [vi (if x1 = 0 then (S1 0 49 : Int) else x3)] by
      refine go_if_eq (tgt := 36) X d_Model_exchanges_29 rfl hx1 (fun hq2 => ?_) (fun hq2 => ?_)
      · skip
        refine go_aload_n X d_Model_exchanges_36 rfl rfl ?_
        refine go_get (v := vi (S1 0 49)) X f_Model_257 hm.1.1 rfl d_Model_exchanges_37 (congrArg (s_v .int) ((hm.s 49).trans (rfl))) ?_
        refine go_top (v' := vi (if x1 = 0 then (S1 0 49 : Int) else x3)) X (congrArg (fun q => vi q) (show S1 0 49 = if x1 = 0 then (S1 0 49 : Int) else x3 from ((if_pos hq2)).symm)) ?_
        exact hv1
      · skip
        refine go_iload_n X d_Model_exchanges_32 rfl rfl ?_
        refine go_goto (tgt := 40) X d_Model_exchanges_33 rfl ?_
        refine go_top (v' := vi (if x1 = 0 then (S1 0 49 : Int) else x3)) X (congrArg (fun q => vi q) (show x3 = if x1 = 0 then (S1 0 49 : Int) else x3 from ((if_neg hq2)).symm)) ?_
        exact hv1
    refine go_istore (lv' := [(5, vi (if x1 = 0 then (S1 0 49 : Int) else x3)), (4, vi y0), (0, vr r), (1, vi x1), (2, vi x2), (3, vi x3)]) X d_Model_exchanges_40 (by decide) rfl ?_
    refine go_aload_n X d_Model_exchanges_42 rfl rfl ?_
    refine go_iload_n X d_Model_exchanges_43 rfl rfl ?_
    refine go_iload_n X d_Model_exchanges_44 rfl rfl ?_
    refine go_bipush (v := 83) X d_Model_exchanges_45 (by decide) ?_
    obtain ⟨v3, S4, hG5, hF6⟩ := bnd_t hF
    refine go_cV (st2 := []) (r := []) X k_Model_275 (a_giveAny l D hm hx3 hx2 (by decide) hG5) hm.1.1 rfl rfl (by decide) (Nat.le_of_ble_eq_true rfl) d_Model_exchanges_47 (by decide) (by decide) (fun v' sh' M7 sz' hpp => ?_)
    obtain ⟨e1, e2, e3, md8⟩ := hpp
    subst e1
    rw [e2, e3]
    clear e2 e3
    show Go g 0 0 sh M7 sz 50 [(5, vi (if x1 = 0 then (S1 0 49 : Int) else x3)), (4, vi y0), (0, vr r), (1, vi x1), (2, vi x2), (3, vi x3)] []
    refine go_aload_n X d_Model_exchanges_50 rfl rfl ?_
    refine go_iload X d_Model_exchanges_51 rfl ?_
    refine go_iload X d_Model_exchanges_53 rfl ?_
    refine go_iload_n X d_Model_exchanges_55 rfl rfl ?_
    suffices hv10 : Go g 0 0 sh M7 sz 66 [(5, vi (if x1 = 0 then (S1 0 49 : Int) else x3)), (4, vi y0), (0, vr r), (1, vi x1), (2, vi x2), (3, vi x3)] [vi (if x1 = 0 then (82 : Int) else 83), vi y0, vi (if x1 = 0 then (S1 0 49 : Int) else x3), vr r] by
      refine go_if_eq (tgt := 64) X d_Model_exchanges_56 rfl hx1 (fun hq11 => ?_) (fun hq11 => ?_)
      · skip
        refine go_bipush (v := 82) X d_Model_exchanges_64 (by decide) ?_
        refine go_top (v' := vi (if x1 = 0 then (82 : Int) else 83)) X (congrArg (fun q => vi q) (show 82 = if x1 = 0 then (82 : Int) else 83 from ((if_pos hq11)).symm)) ?_
        exact hv10
      · skip
        refine go_bipush (v := 83) X d_Model_exchanges_59 (by decide) ?_
        refine go_goto (tgt := 66) X d_Model_exchanges_61 rfl ?_
        refine go_top (v' := vi (if x1 = 0 then (82 : Int) else 83)) X (congrArg (fun q => vi q) (show 83 = if x1 = 0 then (82 : Int) else 83 from ((if_neg hq11)).symm)) ?_
        exact hv10
    obtain ⟨v12, S13, hG14, hF15⟩ := bnd_t hF6
    refine go_cV (st2 := []) (r := []) X k_Model_275 (a_giveAny l D md8 (rI_ite (hm.gS 49 (by decide) (by decide)) hx3) hy0 (rI_ite (by decide) (by decide)) hG14) md8.1.1 rfl rfl (by decide) (Nat.le_of_ble_eq_true rfl) d_Model_exchanges_66 (by decide) (by decide) (fun v' sh' M16 sz' hpp => ?_)
    obtain ⟨e1, e2, e3, md17⟩ := hpp
    subst e1
    rw [e2, e3]
    clear e2 e3
    show Go g 0 0 sh M16 sz 69 [(5, vi (if x1 = 0 then (S1 0 49 : Int) else x3)), (4, vi y0), (0, vr r), (1, vi x1), (2, vi x2), (3, vi x3)] []
    exact go_vret X d_Model_exchanges_69 rfl (by decide) (by decide) (ret_v hF15 md17)
  rw [A_exchanges_e] at hF
  refine go_aload_n X d_Model_exchanges_0 rfl rfl ?_
  refine go_bipush (v := 83) X d_Model_exchanges_1 (by decide) ?_
  obtain ⟨v19, S20, hG21, hF22⟩ := bnd_t hF
  refine go_cV (st2 := []) (r := []) X k_Model_269 (a_any l D h (by decide) hG21) h.1.1 rfl rfl (by decide) (Nat.le_of_ble_eq_true rfl) d_Model_exchanges_3 (by decide) (by decide) (fun v' sh' M23 sz' hpp => ?_)
  obtain ⟨e1, e2, e3, hv25, md24⟩ := hpp
  subst e1
  rw [e2, e3]
  clear e2 e3
  show Go g 0 0 sh M23 sz 6 [(0, vr r), (1, vi x1)] [vi v19]
  refine go_istore_n (lv' := [(2, vi v19), (0, vr r), (1, vi x1)]) X d_Model_exchanges_6 rfl (by decide) rfl ?_
  refine go_aload_n X d_Model_exchanges_7 rfl rfl ?_
  refine go_get (v := vi (S20 0 49)) X f_Model_257 md24.1.1 rfl d_Model_exchanges_8 (congrArg (s_v .int) ((md24.s 49).trans (rfl))) ?_
  refine go_istore_n (lv' := [(3, vi (S20 0 49)), (2, vi v19), (0, vr r), (1, vi x1)]) X d_Model_exchanges_11 rfl (by decide) rfl ?_
  refine go_iload_n X d_Model_exchanges_12 rfl rfl ?_
  refine go_if_eq (tgt := 20) X d_Model_exchanges_13 rfl hx1 (fun hq26 => ?_) (fun hq26 => ?_)
  · skip
    have hF27 := if_t hF22 hq26
    refine go_aload_n X d_Model_exchanges_20 rfl rfl ?_
    refine go_bipush (v := 82) X d_Model_exchanges_21 (by decide) ?_
    obtain ⟨v28, S29, hG30, hF31⟩ := bnd_t hF27
    refine go_cV (st2 := []) (r := []) X k_Model_269 (a_any l D md24 (by decide) hG30) md24.1.1 rfl rfl (by decide) (Nat.le_of_ble_eq_true rfl) d_Model_exchanges_23 (by decide) (by decide) (fun v' sh' M32 sz' hpp => ?_)
    obtain ⟨e1, e2, e3, hv34, md33⟩ := hpp
    subst e1
    rw [e2, e3]
    clear e2 e3
    show Go g 0 0 sh M32 sz 26 [(3, vi (S20 0 49)), (2, vi v19), (0, vr r), (1, vi x1)] [vi v28]
    refine go_lv (lv' := [(0, vr r), (1, vi x1), (2, vi v19), (3, vi (S20 0 49))]) X [2, 3, 1, 0] rfl ?_
    exact hJ26 x1 v19 (S20 0 49) v28 S29 M32 hx1 hv25 (md24.gS 49 (by decide) (by decide)) hv34 md33 hF31
  · skip
    have hF35 := if_f hF22 hq26
    refine go_iload_n X d_Model_exchanges_16 rfl rfl ?_
    refine go_goto (tgt := 26) X d_Model_exchanges_17 rfl ?_
    refine go_lv (lv' := [(0, vr r), (1, vi x1), (2, vi v19), (3, vi (S20 0 49))]) X [2, 3, 1, 0] rfl ?_
    exact hJ26 x1 v19 (S20 0 49) v19 S20 M23 hx1 hv25 (md24.gS 49 (by decide) (by decide)) hv25 md24 hF35
def A_fields_j40 (N : Nat) (S : s_M) : rO := some (0, S)
theorem A_fields_j40_e (N : Nat) (S : s_M) : A_fields_j40 N S = (some (0, S)) := rfl
def A_fields_j23 (N : Nat) (y0 : Int) (S : s_M) : rO := if y0 < 0 then (bnd (A_giveMissing N S) fun v11 S12 => A_fields_j40 N  S12) else (bnd (A_giveText N y0 S) fun v3 S4 => A_fields_j40 N  S4)
theorem A_fields_j23_e (N : Nat) (y0 : Int) (S : s_M) : A_fields_j23 N y0 S = (if y0 < 0 then (bnd (A_giveMissing N S) fun v11 S12 => A_fields_j40 N  S12) else (bnd (A_giveText N y0 S) fun v3 S4 => A_fields_j40 N  S4)) := rfl
def A_fields (N : Nat) (x1 : Int) (S : s_M) : rO := if (S 0 31) < 0 then (A_fields_j23 N (-1) S) else (chk (rL (mwof (u64 x1))) <| bnd (A_fieldOf N (S 0 31) (mwof (u64 x1)) S) fun v22 S23 => A_fields_j23 N v22 S23)
theorem A_fields_e (N : Nat) (x1 : Int) (S : s_M) : A_fields N x1 S = (if (S 0 31) < 0 then (A_fields_j23 N (-1) S) else (chk (rL (mwof (u64 x1))) <| bnd (A_fieldOf N (S 0 31) (mwof (u64 x1)) S) fun v22 S23 => A_fields_j23 N v22 S23)) := rfl
set_option maxHeartbeats 4000000 in
set_option maxRecDepth 100000 in
theorem a_fields (l : Launch) (D : va_G) {sh : s_S} {M0 M : s_M} {sz r x1 : Int} {N : Nat} {S S0 : s_M} {v0 : Int} (h : mq sh M0 M r S) (hx1 : rL x1) (hF : A_fields N x1 S = some (v0, S0)) : Sp l D y_Model_fields prog_14_method_61_code 4 none 6 0 0 [vr r, vl x1] sh M sz (fun v' sh' M' sz' => v' = none ∧ sh' = sh ∧ sz' = sz ∧ mq sh M0 M' r S0) := by
  have hr0 := h.1.2.1
  refine Sp.ofGo (own := "CiteForgeModel") (nm := "fields") (by decide) rfl rfl (Nat.le_of_ble_eq_true rfl) (lv := [(0, vr r), (1, vl x1)]) rfl ?_
  intro g X
  have hJ40 : ∀ (S1 M1 : s_M), mq sh M0 M1 r S1 → A_fields_j40 N S1 = some (v0, S0) → Go g 0 0 sh M1 sz 40 [(0, vr r)] [] := by
    intro S1 M1 hm hF
    rw [A_fields_j40_e] at hF
    exact go_vret X d_Model_fields_40 rfl (by decide) (by decide) (ret_v hF hm)
  have hJ23 : ∀ (y0 : Int) (S1 M1 : s_M), rI y0 → mq sh M0 M1 r S1 → A_fields_j23 N y0 S1 = some (v0, S0) → Go g 0 0 sh M1 sz 23 [(0, vr r)] [vi y0] := by
    intro y0 S1 M1 hy0 hm hF
    rw [A_fields_j23_e] at hF
    refine go_istore_n (lv' := [(3, vi y0), (0, vr r)]) X d_Model_fields_23 rfl (by decide) rfl ?_
    refine go_iload_n X d_Model_fields_24 rfl rfl ?_
    refine go_if_ge (tgt := 35) X d_Model_fields_25 rfl hy0 (fun hq1 => ?_) (fun hq1 => ?_)
    · skip
      have hF2 := if_f hF (Int.not_lt.mpr hq1)
      refine go_aload_n X d_Model_fields_35 rfl rfl ?_
      refine go_iload_n X d_Model_fields_36 rfl rfl ?_
      obtain ⟨v3, S4, hG5, hF6⟩ := bnd_t hF2
      refine go_cV (st2 := []) (r := []) X k_Model_263 (a_giveText l D hm hy0 hG5) hm.1.1 rfl rfl (by decide) (Nat.le_of_ble_eq_true rfl) d_Model_fields_37 (by decide) (by decide) (fun v' sh' M7 sz' hpp => ?_)
      obtain ⟨e1, e2, e3, md8⟩ := hpp
      subst e1
      rw [e2, e3]
      clear e2 e3
      show Go g 0 0 sh M7 sz 40 [(3, vi y0), (0, vr r)] []
      refine go_lv (lv' := [(0, vr r)]) X [1] rfl ?_
      exact hJ40  S4 M7  md8 hF6
    · skip
      have hF10 := if_t hF hq1
      refine go_aload_n X d_Model_fields_28 rfl rfl ?_
      obtain ⟨v11, S12, hG13, hF14⟩ := bnd_t hF10
      refine go_cV (st2 := []) (r := []) X k_Model_266 (a_giveMissing l D hm hG13) hm.1.1 rfl rfl (by decide) (Nat.le_of_ble_eq_true rfl) d_Model_fields_29 (by decide) (by decide) (fun v' sh' M15 sz' hpp => ?_)
      obtain ⟨e1, e2, e3, md16⟩ := hpp
      subst e1
      rw [e2, e3]
      clear e2 e3
      show Go g 0 0 sh M15 sz 32 [(3, vi y0), (0, vr r)] []
      refine go_goto (tgt := 40) X d_Model_fields_32 rfl ?_
      refine go_lv (lv' := [(0, vr r)]) X [1] rfl ?_
      exact hJ40  S12 M15  md16 hF14
  rw [A_fields_e] at hF
  refine go_aload_n X d_Model_fields_0 rfl rfl ?_
  refine go_get (v := vi (S 0 31)) X f_Model_279 h.1.1 rfl d_Model_fields_1 (congrArg (s_v .int) ((h.s 31).trans (rfl))) ?_
  refine go_if_ge (tgt := 11) X d_Model_fields_4 rfl (h.gS 31 (by decide) (by decide)) (fun hq18 => ?_) (fun hq18 => ?_)
  · skip
    have hF19 := if_f hF (Int.not_lt.mpr hq18)
    refine go_aload_n X d_Model_fields_11 rfl rfl ?_
    refine go_aload_n X d_Model_fields_12 rfl rfl ?_
    refine go_get (v := vi (S 0 31)) X f_Model_279 h.1.1 rfl d_Model_fields_13 (congrArg (s_v .int) ((h.s 31).trans (rfl))) ?_
    refine go_lload_n X d_Model_fields_16 rfl rfl ?_
    refine go_top (v' := vl (u64 x1)) X (u64_vl _) ?_
    obtain ⟨hc20, hF21⟩ := chk_t hF19
    refine go_cSf (st2 := [vl (mwof (u64 x1)), vi (S 0 31), vr r]) (r := [vi (S 0 31), vr r]) X k_Model_224 (m_wordOf l D (u64_rng _)) rfl rfl (by decide) (Nat.le_of_ble_eq_true rfl) d_Model_fields_17 (by decide) (by decide) rfl ?_
    obtain ⟨v22, S23, hG24, hF25⟩ := bnd_t hF21
    refine go_cV (st2 := []) (r := []) X k_Model_247 (a_fieldOf l D h (h.gS 31 (by decide) (by decide)) hc20 hG24) h.1.1 rfl rfl (by decide) (Nat.le_of_ble_eq_true rfl) d_Model_fields_20 (by decide) (by decide) (fun v' sh' M26 sz' hpp => ?_)
    obtain ⟨e1, e2, e3, hv28, md27⟩ := hpp
    subst e1
    rw [e2, e3]
    clear e2 e3
    show Go g 0 0 sh M26 sz 23 [(0, vr r), (1, vl x1)] [vi v22]
    refine go_lv (lv' := [(0, vr r)]) X [0] rfl ?_
    exact hJ23 v22 S23 M26 hv28 md27 hF25
  · skip
    have hF29 := if_t hF hq18
    refine go_iconst (v := (-1)) X d_Model_fields_7 ?_
    refine go_goto (tgt := 23) X d_Model_fields_8 rfl ?_
    refine go_lv (lv' := [(0, vr r)]) X [0] rfl ?_
    exact hJ23 (-1) S M (by decide) h hF29
def A_joined_l14 (N : Nat) : Nat → Int → s_M → rO
  | 0, _, _ => none
  | n + 1, x1, S => if x1 < (S 3 83) then (bnd (A_at N 83 x1 S) fun v11 S12 => bnd (A_add N 82 v11 S12) fun v18 S19 => chk (rI (x1 + 1)) <| (A_joined_l14 N n) (x1 + 1) S19) else (bnd (A_giveText N 82 S) fun v3 S4 => some (0, S4))
theorem A_joined_l14_e (N : Nat) (n : Nat) (x1 : Int) (S : s_M) : A_joined_l14 N (n + 1) x1 S = (if x1 < (S 3 83) then (bnd (A_at N 83 x1 S) fun v11 S12 => bnd (A_add N 82 v11 S12) fun v18 S19 => chk (rI (x1 + 1)) <| (A_joined_l14 N n) (x1 + 1) S19) else (bnd (A_giveText N 82 S) fun v3 S4 => some (0, S4))) := rfl
def A_joined (N : Nat) (S : s_M) : rO := bnd (A_taken N 83 S) fun v27 S28 => bnd (A_taken N 82 S28) fun v34 S35 => A_joined_l14 N N 0 S35
theorem A_joined_e (N : Nat) (S : s_M) : A_joined N S = (bnd (A_taken N 83 S) fun v27 S28 => bnd (A_taken N 82 S28) fun v34 S35 => A_joined_l14 N N 0 S35) := rfl
set_option maxHeartbeats 4000000 in
set_option maxRecDepth 100000 in
theorem a_joined (l : Launch) (D : va_G) {sh : s_S} {M0 M : s_M} {sz r  : Int} {N : Nat} {S S0 : s_M} {v0 : Int} (h : mq sh M0 M r S) (hF : A_joined N S = some (v0, S0)) : Sp l D y_Model_joined prog_14_method_62_code 2 none 4 0 0 [vr r] sh M sz (fun v' sh' M' sz' => v' = none ∧ sh' = sh ∧ sz' = sz ∧ mq sh M0 M' r S0) := by
  have hr0 := h.1.2.1
  refine Sp.ofGo (own := "CiteForgeModel") (nm := "joined") (by decide) rfl rfl (Nat.le_of_ble_eq_true rfl) (lv := [(0, vr r)]) rfl ?_
  intro g X
  have hL14 : ∀ (n14 : Nat) (x1 : Int) (S1 M1 : s_M), rI x1 → mq sh M0 M1 r S1 → A_joined_l14 N n14 x1 S1 = some (v0, S0) → Go g 0 0 sh M1 sz 14 [(0, vr r), (1, vi x1)] [] := by
    intro n14
    induction n14 with
    | zero => intro x1 S1 M1 hx1 hm hF; cases hF
    | succ n14 ih14 =>
      intro x1 S1 M1 hx1 hm hF
      rw [A_joined_l14_e] at hF
      refine go_iload_n X d_Model_joined_14 rfl rfl ?_
      refine go_aload_n X d_Model_joined_15 rfl rfl ?_
      refine go_get (v := vr (r + 3)) X f_Model_16 hm.1.1 rfl d_Model_joined_16 (s_varr (hm.1.2.2 2 _ rfl).2 (by omega)) ?_
      refine go_bipush (v := 83) X d_Model_joined_19 (by decide) ?_
      refine go_iald X (hm.1.2.2 2 _ rfl).1 (by decide) (by decide) d_Model_joined_21 ?_
      refine go_top (v' := vi (S1 3 83)) X (congrArg (fun q => vi q) ((hm.a (by decide) 83).trans (rfl))) ?_
      refine go_icmp_ge (tgt := 44) X d_Model_joined_22 rfl hx1 (hm.gA (by decide) 83) (fun hq1 => ?_) (fun hq1 => ?_)
      · skip
        have hF2 := if_f hF (Int.not_lt.mpr hq1)
        refine go_aload_n X d_Model_joined_44 rfl rfl ?_
        refine go_bipush (v := 82) X d_Model_joined_45 (by decide) ?_
        obtain ⟨v3, S4, hG5, hF6⟩ := bnd_t hF2
        refine go_cV (st2 := []) (r := []) X k_Model_263 (a_giveText l D hm (by decide) hG5) hm.1.1 rfl rfl (by decide) (Nat.le_of_ble_eq_true rfl) d_Model_joined_47 (by decide) (by decide) (fun v' sh' M7 sz' hpp => ?_)
        obtain ⟨e1, e2, e3, md8⟩ := hpp
        subst e1
        rw [e2, e3]
        clear e2 e3
        show Go g 0 0 sh M7 sz 50 [(0, vr r), (1, vi x1)] []
        exact go_vret X d_Model_joined_50 rfl (by decide) (by decide) (ret_v hF6 md8)
      · skip
        have hF10 := if_t hF hq1
        refine go_aload_n X d_Model_joined_25 rfl rfl ?_
        refine go_bipush (v := 82) X d_Model_joined_26 (by decide) ?_
        refine go_aload_n X d_Model_joined_28 rfl rfl ?_
        refine go_bipush (v := 83) X d_Model_joined_29 (by decide) ?_
        refine go_iload_n X d_Model_joined_31 rfl rfl ?_
        obtain ⟨v11, S12, hG13, hF14⟩ := bnd_t hF10
        refine go_cV (st2 := []) (r := [vi 82, vr r]) X k_Model_99 (a_at l D hm (by decide) hx1 hG13) hm.1.1 rfl rfl (by decide) (Nat.le_of_ble_eq_true rfl) d_Model_joined_32 (by decide) (by decide) (fun v' sh' M15 sz' hpp => ?_)
        obtain ⟨e1, e2, e3, hv17, md16⟩ := hpp
        subst e1
        rw [e2, e3]
        clear e2 e3
        show Go g 0 0 sh M15 sz 35 [(0, vr r), (1, vi x1)] [vi v11, vi 82, vr r]
        obtain ⟨v18, S19, hG20, hF21⟩ := bnd_t hF14
        refine go_cV (st2 := []) (r := []) X k_Model_124 (a_add l D md16 (by decide) hv17 hG20) md16.1.1 rfl rfl (by decide) (Nat.le_of_ble_eq_true rfl) d_Model_joined_35 (by decide) (by decide) (fun v' sh' M22 sz' hpp => ?_)
        obtain ⟨e1, e2, e3, md23⟩ := hpp
        subst e1
        rw [e2, e3]
        clear e2 e3
        show Go g 0 0 sh M22 sz 38 [(0, vr r), (1, vi x1)] []
        obtain ⟨hc25, hF26⟩ := chk_t hF21
        refine go_iinc (v := 1) (x := x1) (lv' := [(1, vi (x1 + 1)), (0, vr r)]) X d_Model_joined_38 rfl (by decide) rfl ?_
        refine go_goto (tgt := 14) X d_Model_joined_41 rfl ?_
        refine go_lv (lv' := [(0, vr r), (1, vi (x1 + 1))]) X [1, 0] rfl ?_
        exact ih14 (x1 + 1) S19 M22 hc25 md23 hF26
  rw [A_joined_e] at hF
  refine go_aload_n X d_Model_joined_0 rfl rfl ?_
  refine go_bipush (v := 83) X d_Model_joined_1 (by decide) ?_
  obtain ⟨v27, S28, hG29, hF30⟩ := bnd_t hF
  refine go_cV (st2 := []) (r := []) X k_Model_286 (a_taken l D h (by decide) hG29) h.1.1 rfl rfl (by decide) (Nat.le_of_ble_eq_true rfl) d_Model_joined_3 (by decide) (by decide) (fun v' sh' M31 sz' hpp => ?_)
  obtain ⟨e1, e2, e3, md32⟩ := hpp
  subst e1
  rw [e2, e3]
  clear e2 e3
  show Go g 0 0 sh M31 sz 6 [(0, vr r)] []
  refine go_aload_n X d_Model_joined_6 rfl rfl ?_
  refine go_bipush (v := 82) X d_Model_joined_7 (by decide) ?_
  obtain ⟨v34, S35, hG36, hF37⟩ := bnd_t hF30
  refine go_cV (st2 := []) (r := []) X k_Model_286 (a_taken l D md32 (by decide) hG36) md32.1.1 rfl rfl (by decide) (Nat.le_of_ble_eq_true rfl) d_Model_joined_9 (by decide) (by decide) (fun v' sh' M38 sz' hpp => ?_)
  obtain ⟨e1, e2, e3, md39⟩ := hpp
  subst e1
  rw [e2, e3]
  clear e2 e3
  show Go g 0 0 sh M38 sz 12 [(0, vr r)] []
  refine go_iconst (v := 0) X d_Model_joined_12 ?_
  refine go_istore_n (lv' := [(1, vi 0), (0, vr r)]) X d_Model_joined_13 rfl (by decide) rfl ?_
  refine go_lv (lv' := [(0, vr r), (1, vi 0)]) X [1, 0] rfl ?_
  exact hL14 N 0 S35 M38 (by decide) md39 hF37
def A_simple_j187 (N : Nat) (S : s_M) : rO := some (0, S)
theorem A_simple_j187_e (N : Nat) (S : s_M) : A_simple_j187 N S = (some (0, S)) := rfl
def A_simple_j177 (N : Nat) (x1 : Int) (S : s_M) : rO := if x1 = 12 then (bnd (A_empties N S) fun v4 S5 => A_simple_j187 N  S5) else (A_simple_j187 N  S)
theorem A_simple_j177_e (N : Nat) (x1 : Int) (S : s_M) : A_simple_j177 N x1 S = (if x1 = 12 then (bnd (A_empties N S) fun v4 S5 => A_simple_j187 N  S5) else (A_simple_j187 N  S)) := rfl
def A_simple_j162 (N : Nat) (x1 : Int) (S : s_M) : rO := bnd (A_exchanges N (if x1 = 10 then (1 : Int) else 0) S) fun v13 S14 => A_simple_j177 N x1 S14
theorem A_simple_j162_e (N : Nat) (x1 : Int) (S : s_M) : A_simple_j162 N x1 S = (bnd (A_exchanges N (if x1 = 10 then (1 : Int) else 0) S) fun v13 S14 => A_simple_j177 N x1 S14) := rfl
def A_simple_j150 (N : Nat) (x1 : Int) (S : s_M) : rO := if x1 = 10 then (A_simple_j162 N x1 S) else (if x1 = 11 then (A_simple_j162 N x1 S) else (A_simple_j177 N x1 S))
theorem A_simple_j150_e (N : Nat) (x1 : Int) (S : s_M) : A_simple_j150 N x1 S = (if x1 = 10 then (A_simple_j162 N x1 S) else (if x1 = 11 then (A_simple_j162 N x1 S) else (A_simple_j177 N x1 S))) := rfl
def A_simple_j137 (N : Nat) (x1 : Int) (S : s_M) : rO := if x1 = 9 then (bnd (A_any N 82 S) fun v29 S30 => A_simple_j150 N x1 S30) else (A_simple_j150 N x1 S)
theorem A_simple_j137_e (N : Nat) (x1 : Int) (S : s_M) : A_simple_j137 N x1 S = (if x1 = 9 then (bnd (A_any N 82 S) fun v29 S30 => A_simple_j150 N x1 S30) else (A_simple_j150 N x1 S)) := rfl
def A_simple_j127 (N : Nat) (x1 : Int) (S : s_M) : rO := if x1 = 8 then (bnd (A_joined N S) fun v39 S40 => A_simple_j137 N x1 S40) else (A_simple_j137 N x1 S)
theorem A_simple_j127_e (N : Nat) (x1 : Int) (S : s_M) : A_simple_j127 N x1 S = (if x1 = 8 then (bnd (A_joined N S) fun v39 S40 => A_simple_j137 N x1 S40) else (A_simple_j137 N x1 S)) := rfl
def A_simple_j117 (N : Nat) (x1 : Int) (S : s_M) : rO := if x1 = 7 then (bnd (A_compares N S) fun v49 S50 => A_simple_j127 N x1 S50) else (A_simple_j127 N x1 S)
theorem A_simple_j117_e (N : Nat) (x1 : Int) (S : s_M) : A_simple_j117 N x1 S = (if x1 = 7 then (bnd (A_compares N S) fun v49 S50 => A_simple_j127 N x1 S50) else (A_simple_j127 N x1 S)) := rfl
def A_simple_j114 (N : Nat) (x1 y0 : Int) (S : s_M) : rO := bnd (A_giveNumber N y0 S) fun v56 S57 => A_simple_j117 N x1 S57
theorem A_simple_j114_e (N : Nat) (x1 y0 : Int) (S : s_M) : A_simple_j114 N x1 y0 S = (bnd (A_giveNumber N y0 S) fun v56 S57 => A_simple_j117 N x1 S57) := rfl
def A_simple_j38 (N : Nat) (x1 : Int) (S : s_M) : rO := if (decide (3 ≤ x1 ∧ x1 ≤ 6)) = true then (bnd (A_number N S) fun v66 S67 => bnd (A_number N S67) fun v73 S74 => if x1 = 3 then (A_simple_j114 N x1 (wi32 (v73 + v66)) S74) else (if x1 = 4 then (A_simple_j114 N x1 (wi32 (v73 - v66)) S74) else (A_simple_j114 N x1 (if x1 = 5 then (if v73 < v66 then (1 : Int) else 0 : Int) else (if v66 < v73 then (1 : Int) else 0)) S74))) else (A_simple_j117 N x1 S)
theorem A_simple_j38_e (N : Nat) (x1 : Int) (S : s_M) : A_simple_j38 N x1 S = (if (decide (3 ≤ x1 ∧ x1 ≤ 6)) = true then (bnd (A_number N S) fun v66 S67 => bnd (A_number N S67) fun v73 S74 => if x1 = 3 then (A_simple_j114 N x1 (wi32 (v73 + v66)) S74) else (if x1 = 4 then (A_simple_j114 N x1 (wi32 (v73 - v66)) S74) else (A_simple_j114 N x1 (if x1 = 5 then (if v73 < v66 then (1 : Int) else 0 : Int) else (if v66 < v73 then (1 : Int) else 0)) S74))) else (A_simple_j117 N x1 S)) := rfl
def A_simple_j28 (N : Nat) (x1 x2 : Int) (S : s_M) : rO := if x1 = 2 then (bnd (A_fields N x2 S) fun v93 S94 => A_simple_j38 N x1 S94) else (A_simple_j38 N x1 S)
theorem A_simple_j28_e (N : Nat) (x1 x2 : Int) (S : s_M) : A_simple_j28 N x1 x2 S = (if x1 = 2 then (bnd (A_fields N x2 S) fun v93 S94 => A_simple_j38 N x1 S94) else (A_simple_j38 N x1 S)) := rfl
def A_simple_j10 (N : Nat) (x1 x2 : Int) (S : s_M) : rO := if x1 = 1 then (bnd (A_unpack N x2 84 S) fun v103 S104 => bnd (A_giveText N 84 S104) fun v110 S111 => A_simple_j28 N x1 x2 S111) else (A_simple_j28 N x1 x2 S)
theorem A_simple_j10_e (N : Nat) (x1 x2 : Int) (S : s_M) : A_simple_j10 N x1 x2 S = (if x1 = 1 then (bnd (A_unpack N x2 84 S) fun v103 S104 => bnd (A_giveText N 84 S104) fun v110 S111 => A_simple_j28 N x1 x2 S111) else (A_simple_j28 N x1 x2 S)) := rfl
def A_simple (N : Nat) (x1 x2 : Int) (S : s_M) : rO := if x1 = 0 then (bnd (A_giveNumber N (wi32 x2) S) fun v120 S121 => A_simple_j10 N x1 x2 S121) else (A_simple_j10 N x1 x2 S)
theorem A_simple_e (N : Nat) (x1 x2 : Int) (S : s_M) : A_simple N x1 x2 S = (if x1 = 0 then (bnd (A_giveNumber N (wi32 x2) S) fun v120 S121 => A_simple_j10 N x1 x2 S121) else (A_simple_j10 N x1 x2 S)) := rfl
set_option maxHeartbeats 4000000 in
set_option maxRecDepth 100000 in
theorem a_simple (l : Launch) (D : va_G) {sh : s_S} {M0 M : s_M} {sz r x1 x2 : Int} {N : Nat} {S S0 : s_M} {v0 : Int} (h : mq sh M0 M r S) (hx1 : rI x1) (hx2 : rL x2) (hF : A_simple N x1 x2 S = some (v0, S0)) : Sp l D y_Model_simple prog_14_method_64_code 6 none 7 0 0 [vr r, vi x1, vl x2] sh M sz (fun v' sh' M' sz' => v' = none ∧ sh' = sh ∧ sz' = sz ∧ mq sh M0 M' r S0) := by
  have hr0 := h.1.2.1
  refine Sp.ofGo (own := "CiteForgeModel") (nm := "simple") (by decide) rfl rfl (Nat.le_of_ble_eq_true rfl) (lv := [(0, vr r), (1, vi x1), (2, vl x2)]) rfl ?_
  intro g X
  have hJ187 : ∀ (S1 M1 : s_M), mq sh M0 M1 r S1 → A_simple_j187 N S1 = some (v0, S0) → Go g 0 0 sh M1 sz 187 [(0, vr r)] [] := by
    intro S1 M1 hm hF
    rw [A_simple_j187_e] at hF
    exact go_vret X d_Model_simple_187 rfl (by decide) (by decide) (ret_v hF hm)
  have hJ177 : ∀ (x1 : Int) (S1 M1 : s_M), rI x1 → mq sh M0 M1 r S1 → A_simple_j177 N x1 S1 = some (v0, S0) → Go g 0 0 sh M1 sz 177 [(0, vr r), (1, vi x1)] [] := by
    intro x1 S1 M1 hx1 hm hF
    rw [A_simple_j177_e] at hF
    refine go_iload_n X d_Model_simple_177 rfl rfl ?_
    refine go_bipush (v := 12) X d_Model_simple_178 (by decide) ?_
    refine go_icmp_ne (tgt := 187) X d_Model_simple_180 rfl hx1 (by decide) (fun hq1 => ?_) (fun hq1 => ?_)
    · skip
      have hF2 := if_f hF hq1
      refine go_lv (lv' := [(0, vr r)]) X [0] rfl ?_
      exact hJ187  S1 M1  hm hF2
    · skip
      have hF3 := if_t hF hq1
      refine go_aload_n X d_Model_simple_183 rfl rfl ?_
      obtain ⟨v4, S5, hG6, hF7⟩ := bnd_t hF3
      refine go_cV (st2 := []) (r := []) X k_Model_305 (a_empties l D hm hG6) hm.1.1 rfl rfl (by decide) (Nat.le_of_ble_eq_true rfl) d_Model_simple_184 (by decide) (by decide) (fun v' sh' M8 sz' hpp => ?_)
      obtain ⟨e1, e2, e3, md9⟩ := hpp
      subst e1
      rw [e2, e3]
      clear e2 e3
      show Go g 0 0 sh M8 sz 187 [(0, vr r), (1, vi x1)] []
      refine go_lv (lv' := [(0, vr r)]) X [0] rfl ?_
      exact hJ187  S5 M8  md9 hF7
  have hJ162 : ∀ (x1 : Int) (S1 M1 : s_M), rI x1 → mq sh M0 M1 r S1 → A_simple_j162 N x1 S1 = some (v0, S0) → Go g 0 0 sh M1 sz 162 [(0, vr r), (1, vi x1)] [] := by
    intro x1 S1 M1 hx1 hm hF
    rw [A_simple_j162_e] at hF
    refine go_aload_n X d_Model_simple_162 rfl rfl ?_
    refine go_iload_n X d_Model_simple_163 rfl rfl ?_
    refine go_bipush (v := 10) X d_Model_simple_164 (by decide) ?_
    suffices hv11 : Go g 0 0 sh M1 sz 174 [(0, vr r), (1, vi x1)] [vi (if x1 = 10 then (1 : Int) else 0), vr r] by
      refine go_icmp_ne (tgt := 173) X d_Model_simple_166 rfl hx1 (by decide) (fun hq12 => ?_) (fun hq12 => ?_)
      · skip
        refine go_iconst (v := 0) X d_Model_simple_173 ?_
        refine go_top (v' := vi (if x1 = 10 then (1 : Int) else 0)) X (congrArg (fun q => vi q) (show 0 = if x1 = 10 then (1 : Int) else 0 from ((if_neg hq12)).symm)) ?_
        exact hv11
      · skip
        refine go_iconst (v := 1) X d_Model_simple_169 ?_
        refine go_goto (tgt := 174) X d_Model_simple_170 rfl ?_
        refine go_top (v' := vi (if x1 = 10 then (1 : Int) else 0)) X (congrArg (fun q => vi q) (show 1 = if x1 = 10 then (1 : Int) else 0 from ((if_pos hq12)).symm)) ?_
        exact hv11
    obtain ⟨v13, S14, hG15, hF16⟩ := bnd_t hF
    refine go_cV (st2 := []) (r := []) X k_Model_301 (a_exchanges l D hm (rI_ite (by decide) (by decide)) hG15) hm.1.1 rfl rfl (by decide) (Nat.le_of_ble_eq_true rfl) d_Model_simple_174 (by decide) (by decide) (fun v' sh' M17 sz' hpp => ?_)
    obtain ⟨e1, e2, e3, md18⟩ := hpp
    subst e1
    rw [e2, e3]
    clear e2 e3
    show Go g 0 0 sh M17 sz 177 [(0, vr r), (1, vi x1)] []
    refine go_lv (lv' := [(0, vr r), (1, vi x1)]) X [0, 1] rfl ?_
    exact hJ177 x1 S14 M17 hx1 md18 hF16
  have hJ150 : ∀ (x1 : Int) (S1 M1 : s_M), rI x1 → mq sh M0 M1 r S1 → A_simple_j150 N x1 S1 = some (v0, S0) → Go g 0 0 sh M1 sz 150 [(0, vr r), (1, vi x1)] [] := by
    intro x1 S1 M1 hx1 hm hF
    rw [A_simple_j150_e] at hF
    refine go_iload_n X d_Model_simple_150 rfl rfl ?_
    refine go_bipush (v := 10) X d_Model_simple_151 (by decide) ?_
    refine go_icmp_eq (tgt := 162) X d_Model_simple_153 rfl hx1 (by decide) (fun hq20 => ?_) (fun hq20 => ?_)
    · skip
      have hF21 := if_t hF hq20
      refine go_lv (lv' := [(0, vr r), (1, vi x1)]) X [0, 1] rfl ?_
      exact hJ162 x1 S1 M1 hx1 hm hF21
    · skip
      have hF22 := if_f hF hq20
      refine go_iload_n X d_Model_simple_156 rfl rfl ?_
      refine go_bipush (v := 11) X d_Model_simple_157 (by decide) ?_
      refine go_icmp_ne (tgt := 177) X d_Model_simple_159 rfl hx1 (by decide) (fun hq23 => ?_) (fun hq23 => ?_)
      · skip
        have hF24 := if_f hF22 hq23
        refine go_lv (lv' := [(0, vr r), (1, vi x1)]) X [0, 1] rfl ?_
        exact hJ177 x1 S1 M1 hx1 hm hF24
      · skip
        have hF25 := if_t hF22 hq23
        refine go_lv (lv' := [(0, vr r), (1, vi x1)]) X [0, 1] rfl ?_
        exact hJ162 x1 S1 M1 hx1 hm hF25
  have hJ137 : ∀ (x1 : Int) (S1 M1 : s_M), rI x1 → mq sh M0 M1 r S1 → A_simple_j137 N x1 S1 = some (v0, S0) → Go g 0 0 sh M1 sz 137 [(0, vr r), (1, vi x1)] [] := by
    intro x1 S1 M1 hx1 hm hF
    rw [A_simple_j137_e] at hF
    refine go_iload_n X d_Model_simple_137 rfl rfl ?_
    refine go_bipush (v := 9) X d_Model_simple_138 (by decide) ?_
    refine go_icmp_ne (tgt := 150) X d_Model_simple_140 rfl hx1 (by decide) (fun hq26 => ?_) (fun hq26 => ?_)
    · skip
      have hF27 := if_f hF hq26
      refine go_lv (lv' := [(0, vr r), (1, vi x1)]) X [0, 1] rfl ?_
      exact hJ150 x1 S1 M1 hx1 hm hF27
    · skip
      have hF28 := if_t hF hq26
      refine go_aload_n X d_Model_simple_143 rfl rfl ?_
      refine go_bipush (v := 82) X d_Model_simple_144 (by decide) ?_
      obtain ⟨v29, S30, hG31, hF32⟩ := bnd_t hF28
      refine go_cV (st2 := []) (r := []) X k_Model_269 (a_any l D hm (by decide) hG31) hm.1.1 rfl rfl (by decide) (Nat.le_of_ble_eq_true rfl) d_Model_simple_146 (by decide) (by decide) (fun v' sh' M33 sz' hpp => ?_)
      obtain ⟨e1, e2, e3, hv35, md34⟩ := hpp
      subst e1
      rw [e2, e3]
      clear e2 e3
      show Go g 0 0 sh M33 sz 149 [(0, vr r), (1, vi x1)] [vi v29]
      refine go_pop X d_Model_simple_149 rfl ?_
      refine go_lv (lv' := [(0, vr r), (1, vi x1)]) X [0, 1] rfl ?_
      exact hJ150 x1 S30 M33 hx1 md34 hF32
  have hJ127 : ∀ (x1 : Int) (S1 M1 : s_M), rI x1 → mq sh M0 M1 r S1 → A_simple_j127 N x1 S1 = some (v0, S0) → Go g 0 0 sh M1 sz 127 [(0, vr r), (1, vi x1)] [] := by
    intro x1 S1 M1 hx1 hm hF
    rw [A_simple_j127_e] at hF
    refine go_iload_n X d_Model_simple_127 rfl rfl ?_
    refine go_bipush (v := 8) X d_Model_simple_128 (by decide) ?_
    refine go_icmp_ne (tgt := 137) X d_Model_simple_130 rfl hx1 (by decide) (fun hq36 => ?_) (fun hq36 => ?_)
    · skip
      have hF37 := if_f hF hq36
      refine go_lv (lv' := [(0, vr r), (1, vi x1)]) X [0, 1] rfl ?_
      exact hJ137 x1 S1 M1 hx1 hm hF37
    · skip
      have hF38 := if_t hF hq36
      refine go_aload_n X d_Model_simple_133 rfl rfl ?_
      obtain ⟨v39, S40, hG41, hF42⟩ := bnd_t hF38
      refine go_cV (st2 := []) (r := []) X k_Model_298 (a_joined l D hm hG41) hm.1.1 rfl rfl (by decide) (Nat.le_of_ble_eq_true rfl) d_Model_simple_134 (by decide) (by decide) (fun v' sh' M43 sz' hpp => ?_)
      obtain ⟨e1, e2, e3, md44⟩ := hpp
      subst e1
      rw [e2, e3]
      clear e2 e3
      show Go g 0 0 sh M43 sz 137 [(0, vr r), (1, vi x1)] []
      refine go_lv (lv' := [(0, vr r), (1, vi x1)]) X [0, 1] rfl ?_
      exact hJ137 x1 S40 M43 hx1 md44 hF42
  have hJ117 : ∀ (x1 : Int) (S1 M1 : s_M), rI x1 → mq sh M0 M1 r S1 → A_simple_j117 N x1 S1 = some (v0, S0) → Go g 0 0 sh M1 sz 117 [(0, vr r), (1, vi x1)] [] := by
    intro x1 S1 M1 hx1 hm hF
    rw [A_simple_j117_e] at hF
    refine go_iload_n X d_Model_simple_117 rfl rfl ?_
    refine go_bipush (v := 7) X d_Model_simple_118 (by decide) ?_
    refine go_icmp_ne (tgt := 127) X d_Model_simple_120 rfl hx1 (by decide) (fun hq46 => ?_) (fun hq46 => ?_)
    · skip
      have hF47 := if_f hF hq46
      refine go_lv (lv' := [(0, vr r), (1, vi x1)]) X [0, 1] rfl ?_
      exact hJ127 x1 S1 M1 hx1 hm hF47
    · skip
      have hF48 := if_t hF hq46
      refine go_aload_n X d_Model_simple_123 rfl rfl ?_
      obtain ⟨v49, S50, hG51, hF52⟩ := bnd_t hF48
      refine go_cV (st2 := []) (r := []) X k_Model_295 (a_compares l D hm hG51) hm.1.1 rfl rfl (by decide) (Nat.le_of_ble_eq_true rfl) d_Model_simple_124 (by decide) (by decide) (fun v' sh' M53 sz' hpp => ?_)
      obtain ⟨e1, e2, e3, md54⟩ := hpp
      subst e1
      rw [e2, e3]
      clear e2 e3
      show Go g 0 0 sh M53 sz 127 [(0, vr r), (1, vi x1)] []
      refine go_lv (lv' := [(0, vr r), (1, vi x1)]) X [0, 1] rfl ?_
      exact hJ127 x1 S50 M53 hx1 md54 hF52
  have hJ114 : ∀ (x1 y0 : Int) (S1 M1 : s_M), rI x1 → rI y0 → mq sh M0 M1 r S1 → A_simple_j114 N x1 y0 S1 = some (v0, S0) → Go g 0 0 sh M1 sz 114 [(0, vr r), (1, vi x1)] [vi y0, vr r] := by
    intro x1 y0 S1 M1 hx1 hy0 hm hF
    rw [A_simple_j114_e] at hF
    obtain ⟨v56, S57, hG58, hF59⟩ := bnd_t hF
    refine go_cV (st2 := []) (r := []) X k_Model_260 (a_giveNumber l D hm hy0 hG58) hm.1.1 rfl rfl (by decide) (Nat.le_of_ble_eq_true rfl) d_Model_simple_114 (by decide) (by decide) (fun v' sh' M60 sz' hpp => ?_)
    obtain ⟨e1, e2, e3, md61⟩ := hpp
    subst e1
    rw [e2, e3]
    clear e2 e3
    show Go g 0 0 sh M60 sz 117 [(0, vr r), (1, vi x1)] []
    refine go_lv (lv' := [(0, vr r), (1, vi x1)]) X [0, 1] rfl ?_
    exact hJ117 x1 S57 M60 hx1 md61 hF59
  have hJ38 : ∀ (x1 : Int) (S1 M1 : s_M), rI x1 → mq sh M0 M1 r S1 → A_simple_j38 N x1 S1 = some (v0, S0) → Go g 0 0 sh M1 sz 38 [(0, vr r), (1, vi x1)] [] := by
    intro x1 S1 M1 hx1 hm hF
    rw [A_simple_j38_e] at hF
    refine go_iload_n X d_Model_simple_38 rfl rfl ?_
    refine go_iconst (v := 3) X d_Model_simple_39 ?_
    refine go_bipush (v := 6) X d_Model_simple_40 (by decide) ?_
    refine go_cSf (st2 := [vi (s_b (decide (3 ≤ x1 ∧ x1 ≤ 6)))]) (r := []) X k_Model_103 (m_within l D hx1 (by decide) (by decide)) rfl rfl (by decide) (Nat.le_of_ble_eq_true rfl) d_Model_simple_42 (by decide) (by decide) rfl ?_
    refine go_ifb_eq (tgt := 117) X d_Model_simple_45 rfl (fun hq63 => ?_) (fun hq63 => ?_)
    · skip
      have hF64 := if_f hF (bnf hq63)
      refine go_lv (lv' := [(0, vr r), (1, vi x1)]) X [0, 1] rfl ?_
      exact hJ117 x1 S1 M1 hx1 hm hF64
    · skip
      have hF65 := if_t hF hq63
      refine go_aload_n X d_Model_simple_48 rfl rfl ?_
      obtain ⟨v66, S67, hG68, hF69⟩ := bnd_t hF65
      refine go_cV (st2 := []) (r := []) X k_Model_292 (a_number l D hm hG68) hm.1.1 rfl rfl (by decide) (Nat.le_of_ble_eq_true rfl) d_Model_simple_49 (by decide) (by decide) (fun v' sh' M70 sz' hpp => ?_)
      obtain ⟨e1, e2, e3, hv72, md71⟩ := hpp
      subst e1
      rw [e2, e3]
      clear e2 e3
      show Go g 0 0 sh M70 sz 52 [(0, vr r), (1, vi x1)] [vi v66]
      refine go_istore (lv' := [(4, vi v66), (0, vr r), (1, vi x1)]) X d_Model_simple_52 (by decide) rfl ?_
      refine go_aload_n X d_Model_simple_54 rfl rfl ?_
      obtain ⟨v73, S74, hG75, hF76⟩ := bnd_t hF69
      refine go_cV (st2 := []) (r := []) X k_Model_292 (a_number l D md71 hG75) md71.1.1 rfl rfl (by decide) (Nat.le_of_ble_eq_true rfl) d_Model_simple_55 (by decide) (by decide) (fun v' sh' M77 sz' hpp => ?_)
      obtain ⟨e1, e2, e3, hv79, md78⟩ := hpp
      subst e1
      rw [e2, e3]
      clear e2 e3
      show Go g 0 0 sh M77 sz 58 [(4, vi v66), (0, vr r), (1, vi x1)] [vi v73]
      refine go_istore (lv' := [(5, vi v73), (4, vi v66), (0, vr r), (1, vi x1)]) X d_Model_simple_58 (by decide) rfl ?_
      refine go_aload_n X d_Model_simple_60 rfl rfl ?_
      refine go_iload_n X d_Model_simple_61 rfl rfl ?_
      refine go_iconst (v := 3) X d_Model_simple_62 ?_
      refine go_icmp_ne (tgt := 74) X d_Model_simple_63 rfl hx1 (by decide) (fun hq80 => ?_) (fun hq80 => ?_)
      · skip
        have hF81 := if_f hF76 hq80
        refine go_iload_n X d_Model_simple_74 rfl rfl ?_
        refine go_iconst (v := 4) X d_Model_simple_75 ?_
        refine go_icmp_ne (tgt := 87) X d_Model_simple_76 rfl hx1 (by decide) (fun hq82 => ?_) (fun hq82 => ?_)
        · skip
          have hF83 := if_f hF81 hq82
          refine go_iload_n X d_Model_simple_87 rfl rfl ?_
          refine go_iconst (v := 5) X d_Model_simple_88 ?_
          suffices hv84 : Go g 0 0 sh M77 sz 114 [(5, vi v73), (4, vi v66), (0, vr r), (1, vi x1)] [vi (if x1 = 5 then (if v73 < v66 then (1 : Int) else 0 : Int) else (if v66 < v73 then (1 : Int) else 0)), vr r] by
            refine go_icmp_ne (tgt := 102) X d_Model_simple_89 rfl hx1 (by decide) (fun hq85 => ?_) (fun hq85 => ?_)
            · skip
              refine go_iload X d_Model_simple_102 rfl ?_
              refine go_iload X d_Model_simple_104 rfl ?_
              refine go_icmp_le (tgt := 113) X d_Model_simple_106 rfl hv79 hv72 (fun hq86 => ?_) (fun hq86 => ?_)
              · skip
                refine go_iconst (v := 0) X d_Model_simple_113 ?_
                refine go_top (v' := vi (if x1 = 5 then (if v73 < v66 then (1 : Int) else 0 : Int) else (if v66 < v73 then (1 : Int) else 0))) X (congrArg (fun q => vi q) (show 0 = if x1 = 5 then (if v73 < v66 then (1 : Int) else 0 : Int) else (if v66 < v73 then (1 : Int) else 0) from ((if_neg hq85).trans ((if_neg (Int.not_lt.mpr hq86)))).symm)) ?_
                exact hv84
              · skip
                refine go_iconst (v := 1) X d_Model_simple_109 ?_
                refine go_goto (tgt := 114) X d_Model_simple_110 rfl ?_
                refine go_top (v' := vi (if x1 = 5 then (if v73 < v66 then (1 : Int) else 0 : Int) else (if v66 < v73 then (1 : Int) else 0))) X (congrArg (fun q => vi q) (show 1 = if x1 = 5 then (if v73 < v66 then (1 : Int) else 0 : Int) else (if v66 < v73 then (1 : Int) else 0) from ((if_neg hq85).trans ((if_pos hq86))).symm)) ?_
                exact hv84
            · skip
              refine go_iload X d_Model_simple_92 rfl ?_
              refine go_iload X d_Model_simple_94 rfl ?_
              refine go_icmp_ge (tgt := 113) X d_Model_simple_96 rfl hv79 hv72 (fun hq87 => ?_) (fun hq87 => ?_)
              · skip
                refine go_iconst (v := 0) X d_Model_simple_113 ?_
                refine go_top (v' := vi (if x1 = 5 then (if v73 < v66 then (1 : Int) else 0 : Int) else (if v66 < v73 then (1 : Int) else 0))) X (congrArg (fun q => vi q) (show 0 = if x1 = 5 then (if v73 < v66 then (1 : Int) else 0 : Int) else (if v66 < v73 then (1 : Int) else 0) from ((if_pos hq85).trans ((if_neg (Int.not_lt.mpr hq87)))).symm)) ?_
                exact hv84
              · skip
                refine go_goto (tgt := 109) X d_Model_simple_99 rfl ?_
                refine go_iconst (v := 1) X d_Model_simple_109 ?_
                refine go_goto (tgt := 114) X d_Model_simple_110 rfl ?_
                refine go_top (v' := vi (if x1 = 5 then (if v73 < v66 then (1 : Int) else 0 : Int) else (if v66 < v73 then (1 : Int) else 0))) X (congrArg (fun q => vi q) (show 1 = if x1 = 5 then (if v73 < v66 then (1 : Int) else 0 : Int) else (if v66 < v73 then (1 : Int) else 0) from ((if_pos hq85).trans ((if_pos hq87))).symm)) ?_
                exact hv84
          refine go_lv (lv' := [(0, vr r), (1, vi x1)]) X [2, 3] rfl ?_
          exact hJ114 x1 (if x1 = 5 then (if v73 < v66 then (1 : Int) else 0 : Int) else (if v66 < v73 then (1 : Int) else 0)) S74 M77 hx1 (rI_ite (rI_ite (by decide) (by decide)) (rI_ite (by decide) (by decide))) md78 hF83
        · skip
          have hF88 := if_t hF81 hq82
          refine go_iload X d_Model_simple_79 rfl ?_
          refine go_iload X d_Model_simple_81 rfl ?_
          refine go_isub X d_Model_simple_83 ?_
          refine go_top (v' := vi (wi32 (v73 - v66))) X (wi32_vi _) ?_
          refine go_goto (tgt := 114) X d_Model_simple_84 rfl ?_
          refine go_lv (lv' := [(0, vr r), (1, vi x1)]) X [2, 3] rfl ?_
          exact hJ114 x1 (wi32 (v73 - v66)) S74 M77 hx1 (wi32_rng _) md78 hF88
      · skip
        have hF89 := if_t hF76 hq80
        refine go_iload X d_Model_simple_66 rfl ?_
        refine go_iload X d_Model_simple_68 rfl ?_
        refine go_iadd X d_Model_simple_70 ?_
        refine go_top (v' := vi (wi32 (v73 + v66))) X (wi32_vi _) ?_
        refine go_goto (tgt := 114) X d_Model_simple_71 rfl ?_
        refine go_lv (lv' := [(0, vr r), (1, vi x1)]) X [2, 3] rfl ?_
        exact hJ114 x1 (wi32 (v73 + v66)) S74 M77 hx1 (wi32_rng _) md78 hF89
  have hJ28 : ∀ (x1 x2 : Int) (S1 M1 : s_M), rI x1 → rL x2 → mq sh M0 M1 r S1 → A_simple_j28 N x1 x2 S1 = some (v0, S0) → Go g 0 0 sh M1 sz 28 [(0, vr r), (1, vi x1), (2, vl x2)] [] := by
    intro x1 x2 S1 M1 hx1 hx2 hm hF
    rw [A_simple_j28_e] at hF
    refine go_iload_n X d_Model_simple_28 rfl rfl ?_
    refine go_iconst (v := 2) X d_Model_simple_29 ?_
    refine go_icmp_ne (tgt := 38) X d_Model_simple_30 rfl hx1 (by decide) (fun hq90 => ?_) (fun hq90 => ?_)
    · skip
      have hF91 := if_f hF hq90
      refine go_lv (lv' := [(0, vr r), (1, vi x1)]) X [0, 1] rfl ?_
      exact hJ38 x1 S1 M1 hx1 hm hF91
    · skip
      have hF92 := if_t hF hq90
      refine go_aload_n X d_Model_simple_33 rfl rfl ?_
      refine go_lload_n X d_Model_simple_34 rfl rfl ?_
      obtain ⟨v93, S94, hG95, hF96⟩ := bnd_t hF92
      refine go_cV (st2 := []) (r := []) X k_Model_289 (a_fields l D hm hx2 hG95) hm.1.1 rfl rfl (by decide) (Nat.le_of_ble_eq_true rfl) d_Model_simple_35 (by decide) (by decide) (fun v' sh' M97 sz' hpp => ?_)
      obtain ⟨e1, e2, e3, md98⟩ := hpp
      subst e1
      rw [e2, e3]
      clear e2 e3
      show Go g 0 0 sh M97 sz 38 [(0, vr r), (1, vi x1), (2, vl x2)] []
      refine go_lv (lv' := [(0, vr r), (1, vi x1)]) X [0, 1] rfl ?_
      exact hJ38 x1 S94 M97 hx1 md98 hF96
  have hJ10 : ∀ (x1 x2 : Int) (S1 M1 : s_M), rI x1 → rL x2 → mq sh M0 M1 r S1 → A_simple_j10 N x1 x2 S1 = some (v0, S0) → Go g 0 0 sh M1 sz 10 [(0, vr r), (1, vi x1), (2, vl x2)] [] := by
    intro x1 x2 S1 M1 hx1 hx2 hm hF
    rw [A_simple_j10_e] at hF
    refine go_iload_n X d_Model_simple_10 rfl rfl ?_
    refine go_iconst (v := 1) X d_Model_simple_11 ?_
    refine go_icmp_ne (tgt := 28) X d_Model_simple_12 rfl hx1 (by decide) (fun hq100 => ?_) (fun hq100 => ?_)
    · skip
      have hF101 := if_f hF hq100
      refine go_lv (lv' := [(0, vr r), (1, vi x1), (2, vl x2)]) X [0, 1, 2] rfl ?_
      exact hJ28 x1 x2 S1 M1 hx1 hx2 hm hF101
    · skip
      have hF102 := if_t hF hq100
      refine go_aload_n X d_Model_simple_15 rfl rfl ?_
      refine go_lload_n X d_Model_simple_16 rfl rfl ?_
      refine go_bipush (v := 84) X d_Model_simple_17 (by decide) ?_
      obtain ⟨v103, S104, hG105, hF106⟩ := bnd_t hF102
      refine go_cV (st2 := []) (r := []) X k_Model_282 (a_unpack l D hm hx2 (by decide) hG105) hm.1.1 rfl rfl (by decide) (Nat.le_of_ble_eq_true rfl) d_Model_simple_19 (by decide) (by decide) (fun v' sh' M107 sz' hpp => ?_)
      obtain ⟨e1, e2, e3, md108⟩ := hpp
      subst e1
      rw [e2, e3]
      clear e2 e3
      show Go g 0 0 sh M107 sz 22 [(0, vr r), (1, vi x1), (2, vl x2)] []
      refine go_aload_n X d_Model_simple_22 rfl rfl ?_
      refine go_bipush (v := 84) X d_Model_simple_23 (by decide) ?_
      obtain ⟨v110, S111, hG112, hF113⟩ := bnd_t hF106
      refine go_cV (st2 := []) (r := []) X k_Model_263 (a_giveText l D md108 (by decide) hG112) md108.1.1 rfl rfl (by decide) (Nat.le_of_ble_eq_true rfl) d_Model_simple_25 (by decide) (by decide) (fun v' sh' M114 sz' hpp => ?_)
      obtain ⟨e1, e2, e3, md115⟩ := hpp
      subst e1
      rw [e2, e3]
      clear e2 e3
      show Go g 0 0 sh M114 sz 28 [(0, vr r), (1, vi x1), (2, vl x2)] []
      refine go_lv (lv' := [(0, vr r), (1, vi x1), (2, vl x2)]) X [0, 1, 2] rfl ?_
      exact hJ28 x1 x2 S111 M114 hx1 hx2 md115 hF113
  rw [A_simple_e] at hF
  refine go_iload_n X d_Model_simple_0 rfl rfl ?_
  refine go_if_ne (tgt := 10) X d_Model_simple_1 rfl hx1 (fun hq117 => ?_) (fun hq117 => ?_)
  · skip
    have hF118 := if_f hF hq117
    refine go_lv (lv' := [(0, vr r), (1, vi x1), (2, vl x2)]) X [0, 1, 2] rfl ?_
    exact hJ10 x1 x2 S M hx1 hx2 h hF118
  · skip
    have hF119 := if_t hF hq117
    refine go_aload_n X d_Model_simple_4 rfl rfl ?_
    refine go_lload_n X d_Model_simple_5 rfl rfl ?_
    refine go_l2i X d_Model_simple_6 ?_
    refine go_top (v' := vi (wi32 x2)) X (wi32_vi _) ?_
    obtain ⟨v120, S121, hG122, hF123⟩ := bnd_t hF119
    refine go_cV (st2 := []) (r := []) X k_Model_260 (a_giveNumber l D h (wi32_rng _) hG122) h.1.1 rfl rfl (by decide) (Nat.le_of_ble_eq_true rfl) d_Model_simple_7 (by decide) (by decide) (fun v' sh' M124 sz' hpp => ?_)
    obtain ⟨e1, e2, e3, md125⟩ := hpp
    subst e1
    rw [e2, e3]
    clear e2 e3
    show Go g 0 0 sh M124 sz 10 [(0, vr r), (1, vi x1), (2, vl x2)] []
    refine go_lv (lv' := [(0, vr r), (1, vi x1), (2, vl x2)]) X [0, 1, 2] rfl ?_
    exact hJ10 x1 x2 S121 M124 hx1 hx2 md125 hF123
def A_capitals_l13 (N : Nat) : Nat → Int → Int → Int → Int → s_M → rO
  | 0, _, _, _, _, _ => none
  | n + 1, x1, x2, x3, x4, S => if x4 < (S 3 82) then (bnd (A_at N 82 x4 S) fun v4 S5 => chk (rI (x2 + (if v4 = 123 then (1 : Int) else (if v4 = 125 then (if 0 < x2 then ((-1) : Int) else 0 : Int) else 0)))) <| bnd (A_add N 84 (if (if x2 = 0 then (1 : Int) else 0) = 0 then (v4 : Int) else (if x1 = 0 then (if (if x3 = 0 then (0 : Int) else (if x4 = 0 then (1 : Int) else (if v4 = 32 then (0 : Int) else 1))) = 0 then (if x1 = 2 then (p_upp v4 : Int) else (p_low v4) : Int) else v4 : Int) else (if x1 = 2 then (p_upp v4 : Int) else (p_low v4)))) S5) fun v29 S30 => chk (rI (x4 + 1)) <| (A_capitals_l13 N n) x1 (x2 + (if v4 = 123 then (1 : Int) else (if v4 = 125 then (if 0 < x2 then ((-1) : Int) else 0 : Int) else 0))) (if (if x2 = 0 then (1 : Int) else 0) = 0 then (if x3 = 0 then (0 : Int) else (if 0 < x4 then (if v4 = 32 then (1 : Int) else 0 : Int) else 0) : Int) else (if v4 = 58 then (1 : Int) else (if x3 = 0 then (0 : Int) else (if 0 < x4 then (if v4 = 32 then (1 : Int) else 0 : Int) else 0)))) (x4 + 1) S30) else (some (0, S))
theorem A_capitals_l13_e (N : Nat) (n : Nat) (x1 x2 x3 x4 : Int) (S : s_M) : A_capitals_l13 N (n + 1) x1 x2 x3 x4 S = (if x4 < (S 3 82) then (bnd (A_at N 82 x4 S) fun v4 S5 => chk (rI (x2 + (if v4 = 123 then (1 : Int) else (if v4 = 125 then (if 0 < x2 then ((-1) : Int) else 0 : Int) else 0)))) <| bnd (A_add N 84 (if (if x2 = 0 then (1 : Int) else 0) = 0 then (v4 : Int) else (if x1 = 0 then (if (if x3 = 0 then (0 : Int) else (if x4 = 0 then (1 : Int) else (if v4 = 32 then (0 : Int) else 1))) = 0 then (if x1 = 2 then (p_upp v4 : Int) else (p_low v4) : Int) else v4 : Int) else (if x1 = 2 then (p_upp v4 : Int) else (p_low v4)))) S5) fun v29 S30 => chk (rI (x4 + 1)) <| (A_capitals_l13 N n) x1 (x2 + (if v4 = 123 then (1 : Int) else (if v4 = 125 then (if 0 < x2 then ((-1) : Int) else 0 : Int) else 0))) (if (if x2 = 0 then (1 : Int) else 0) = 0 then (if x3 = 0 then (0 : Int) else (if 0 < x4 then (if v4 = 32 then (1 : Int) else 0 : Int) else 0) : Int) else (if v4 = 58 then (1 : Int) else (if x3 = 0 then (0 : Int) else (if 0 < x4 then (if v4 = 32 then (1 : Int) else 0 : Int) else 0)))) (x4 + 1) S30) else (some (0, S))) := rfl
def A_capitals (N : Nat) (x1 : Int) (S : s_M) : rO := bnd (A_clearText N 84 S) fun v47 S48 => A_capitals_l13 N N x1 0 1 0 S48
theorem A_capitals_e (N : Nat) (x1 : Int) (S : s_M) : A_capitals N x1 S = (bnd (A_clearText N 84 S) fun v47 S48 => A_capitals_l13 N N x1 0 1 0 S48) := rfl
set_option maxHeartbeats 4000000 in
set_option maxRecDepth 100000 in
theorem a_capitals (l : Launch) (D : va_G) {sh : s_S} {M0 M : s_M} {sz r x1 : Int} {N : Nat} {S S0 : s_M} {v0 : Int} (h : mq sh M0 M r S) (hx1 : rI x1) (hF : A_capitals N x1 S = some (v0, S0)) : Sp l D y_Model_capitals prog_14_method_67_code 8 none 3 0 0 [vr r, vi x1] sh M sz (fun v' sh' M' sz' => v' = none ∧ sh' = sh ∧ sz' = sz ∧ mq sh M0 M' r S0) := by
  have hr0 := h.1.2.1
  refine Sp.ofGo (own := "CiteForgeModel") (nm := "capitals") (by decide) rfl rfl (Nat.le_of_ble_eq_true rfl) (lv := [(0, vr r), (1, vi x1)]) rfl ?_
  intro g X
  have hL13 : ∀ (n13 : Nat) (x1 x2 x3 x4 : Int) (S1 M1 : s_M), rI x1 → rI x2 → rI x3 → rI x4 → mq sh M0 M1 r S1 → A_capitals_l13 N n13 x1 x2 x3 x4 S1 = some (v0, S0) → Go g 0 0 sh M1 sz 13 [(0, vr r), (1, vi x1), (2, vi x2), (3, vi x3), (4, vi x4)] [] := by
    intro n13
    induction n13 with
    | zero => intro x1 x2 x3 x4 S1 M1 hx1 hx2 hx3 hx4 hm hF; cases hF
    | succ n13 ih13 =>
      intro x1 x2 x3 x4 S1 M1 hx1 hx2 hx3 hx4 hm hF
      rw [A_capitals_l13_e] at hF
      refine go_iload X d_Model_capitals_13 rfl ?_
      refine go_aload_n X d_Model_capitals_15 rfl rfl ?_
      refine go_get (v := vr (r + 3)) X f_Model_16 hm.1.1 rfl d_Model_capitals_16 (s_varr (hm.1.2.2 2 _ rfl).2 (by omega)) ?_
      refine go_bipush (v := 82) X d_Model_capitals_19 (by decide) ?_
      refine go_iald X (hm.1.2.2 2 _ rfl).1 (by decide) (by decide) d_Model_capitals_21 ?_
      refine go_top (v' := vi (S1 3 82)) X (congrArg (fun q => vi q) ((hm.a (by decide) 82).trans (rfl))) ?_
      refine go_icmp_ge (tgt := 182) X d_Model_capitals_22 rfl hx4 (hm.gA (by decide) 82) (fun hq1 => ?_) (fun hq1 => ?_)
      · skip
        have hF2 := if_f hF (Int.not_lt.mpr hq1)
        exact go_vret X d_Model_capitals_182 rfl (by decide) (by decide) (ret_v hF2 hm)
      · skip
        have hF3 := if_t hF hq1
        refine go_aload_n X d_Model_capitals_25 rfl rfl ?_
        refine go_bipush (v := 82) X d_Model_capitals_26 (by decide) ?_
        refine go_iload X d_Model_capitals_28 rfl ?_
        obtain ⟨v4, S5, hG6, hF7⟩ := bnd_t hF3
        refine go_cV (st2 := []) (r := []) X k_Model_99 (a_at l D hm (by decide) hx4 hG6) hm.1.1 rfl rfl (by decide) (Nat.le_of_ble_eq_true rfl) d_Model_capitals_30 (by decide) (by decide) (fun v' sh' M8 sz' hpp => ?_)
        obtain ⟨e1, e2, e3, hv10, md9⟩ := hpp
        subst e1
        rw [e2, e3]
        clear e2 e3
        show Go g 0 0 sh M8 sz 33 [(0, vr r), (1, vi x1), (2, vi x2), (3, vi x3), (4, vi x4)] [vi v4]
        refine go_istore (lv' := [(5, vi v4), (0, vr r), (1, vi x1), (2, vi x2), (3, vi x3), (4, vi x4)]) X d_Model_capitals_33 (by decide) rfl ?_
        refine go_iload_n X d_Model_capitals_35 rfl rfl ?_
        suffices hv11 : Go g 0 0 sh M8 sz 44 [(5, vi v4), (0, vr r), (1, vi x1), (2, vi x2), (3, vi x3), (4, vi x4)] [vi (if x2 = 0 then (1 : Int) else 0)] by
          refine go_if_ne (tgt := 43) X d_Model_capitals_36 rfl hx2 (fun hq12 => ?_) (fun hq12 => ?_)
          · skip
            refine go_iconst (v := 0) X d_Model_capitals_43 ?_
            refine go_top (v' := vi (if x2 = 0 then (1 : Int) else 0)) X (congrArg (fun q => vi q) (show 0 = if x2 = 0 then (1 : Int) else 0 from ((if_neg hq12)).symm)) ?_
            exact hv11
          · skip
            refine go_iconst (v := 1) X d_Model_capitals_39 ?_
            refine go_goto (tgt := 44) X d_Model_capitals_40 rfl ?_
            refine go_top (v' := vi (if x2 = 0 then (1 : Int) else 0)) X (congrArg (fun q => vi q) (show 1 = if x2 = 0 then (1 : Int) else 0 from ((if_pos hq12)).symm)) ?_
            exact hv11
        refine go_istore (lv' := [(6, vi (if x2 = 0 then (1 : Int) else 0)), (5, vi v4), (0, vr r), (1, vi x1), (2, vi x2), (3, vi x3), (4, vi x4)]) X d_Model_capitals_44 (by decide) rfl ?_
        refine go_iload_n X d_Model_capitals_46 rfl rfl ?_
        refine go_iload X d_Model_capitals_47 rfl ?_
        refine go_bipush (v := 123) X d_Model_capitals_49 (by decide) ?_
        suffices hv13 : Go g 0 0 sh M8 sz 74 [(6, vi (if x2 = 0 then (1 : Int) else 0)), (5, vi v4), (0, vr r), (1, vi x1), (2, vi x2), (3, vi x3), (4, vi x4)] [vi (if v4 = 123 then (1 : Int) else (if v4 = 125 then (if 0 < x2 then ((-1) : Int) else 0 : Int) else 0)), vi x2] by
          refine go_icmp_ne (tgt := 58) X d_Model_capitals_51 rfl hv10 (by decide) (fun hq14 => ?_) (fun hq14 => ?_)
          · skip
            refine go_iload X d_Model_capitals_58 rfl ?_
            refine go_bipush (v := 125) X d_Model_capitals_60 (by decide) ?_
            refine go_icmp_ne (tgt := 73) X d_Model_capitals_62 rfl hv10 (by decide) (fun hq15 => ?_) (fun hq15 => ?_)
            · skip
              refine go_iconst (v := 0) X d_Model_capitals_73 ?_
              refine go_top (v' := vi (if v4 = 123 then (1 : Int) else (if v4 = 125 then (if 0 < x2 then ((-1) : Int) else 0 : Int) else 0))) X (congrArg (fun q => vi q) (show 0 = if v4 = 123 then (1 : Int) else (if v4 = 125 then (if 0 < x2 then ((-1) : Int) else 0 : Int) else 0) from ((if_neg hq14).trans ((if_neg hq15))).symm)) ?_
              exact hv13
            · skip
              refine go_iload_n X d_Model_capitals_65 rfl rfl ?_
              refine go_if_le (tgt := 73) X d_Model_capitals_66 rfl hx2 (fun hq16 => ?_) (fun hq16 => ?_)
              · skip
                refine go_iconst (v := 0) X d_Model_capitals_73 ?_
                refine go_top (v' := vi (if v4 = 123 then (1 : Int) else (if v4 = 125 then (if 0 < x2 then ((-1) : Int) else 0 : Int) else 0))) X (congrArg (fun q => vi q) (show 0 = if v4 = 123 then (1 : Int) else (if v4 = 125 then (if 0 < x2 then ((-1) : Int) else 0 : Int) else 0) from ((if_neg hq14).trans ((if_pos hq15).trans ((if_neg (Int.not_lt.mpr hq16))))).symm)) ?_
                exact hv13
              · skip
                refine go_iconst (v := (-1)) X d_Model_capitals_69 ?_
                refine go_goto (tgt := 74) X d_Model_capitals_70 rfl ?_
                refine go_top (v' := vi (if v4 = 123 then (1 : Int) else (if v4 = 125 then (if 0 < x2 then ((-1) : Int) else 0 : Int) else 0))) X (congrArg (fun q => vi q) (show (-1) = if v4 = 123 then (1 : Int) else (if v4 = 125 then (if 0 < x2 then ((-1) : Int) else 0 : Int) else 0) from ((if_neg hq14).trans ((if_pos hq15).trans ((if_pos hq16)))).symm)) ?_
                exact hv13
          · skip
            refine go_iconst (v := 1) X d_Model_capitals_54 ?_
            refine go_goto (tgt := 74) X d_Model_capitals_55 rfl ?_
            refine go_top (v' := vi (if v4 = 123 then (1 : Int) else (if v4 = 125 then (if 0 < x2 then ((-1) : Int) else 0 : Int) else 0))) X (congrArg (fun q => vi q) (show 1 = if v4 = 123 then (1 : Int) else (if v4 = 125 then (if 0 < x2 then ((-1) : Int) else 0 : Int) else 0) from ((if_pos hq14)).symm)) ?_
            exact hv13
        refine go_iadd X d_Model_capitals_74 ?_
        obtain ⟨hc17, hF18⟩ := chk_t hF7
        refine go_istore_n (lv' := [(2, vi (x2 + (if v4 = 123 then (1 : Int) else (if v4 = 125 then (if 0 < x2 then ((-1) : Int) else 0 : Int) else 0)))), (6, vi (if x2 = 0 then (1 : Int) else 0)), (5, vi v4), (0, vr r), (1, vi x1), (3, vi x3), (4, vi x4)]) X d_Model_capitals_75 rfl (by decide) rfl ?_
        refine go_iload_n X d_Model_capitals_76 rfl rfl ?_
        suffices hv19 : Go g 0 0 sh M8 sz 97 [(2, vi (x2 + (if v4 = 123 then (1 : Int) else (if v4 = 125 then (if 0 < x2 then ((-1) : Int) else 0 : Int) else 0)))), (6, vi (if x2 = 0 then (1 : Int) else 0)), (5, vi v4), (0, vr r), (1, vi x1), (3, vi x3), (4, vi x4)] [vi (if x3 = 0 then (0 : Int) else (if x4 = 0 then (1 : Int) else (if v4 = 32 then (0 : Int) else 1)))] by
          refine go_if_eq (tgt := 96) X d_Model_capitals_77 rfl hx3 (fun hq20 => ?_) (fun hq20 => ?_)
          · skip
            refine go_iconst (v := 0) X d_Model_capitals_96 ?_
            refine go_top (v' := vi (if x3 = 0 then (0 : Int) else (if x4 = 0 then (1 : Int) else (if v4 = 32 then (0 : Int) else 1)))) X (congrArg (fun q => vi q) (show 0 = if x3 = 0 then (0 : Int) else (if x4 = 0 then (1 : Int) else (if v4 = 32 then (0 : Int) else 1)) from ((if_pos hq20)).symm)) ?_
            exact hv19
          · skip
            refine go_iload X d_Model_capitals_80 rfl ?_
            refine go_if_eq (tgt := 92) X d_Model_capitals_82 rfl hx4 (fun hq21 => ?_) (fun hq21 => ?_)
            · skip
              refine go_iconst (v := 1) X d_Model_capitals_92 ?_
              refine go_goto (tgt := 97) X d_Model_capitals_93 rfl ?_
              refine go_top (v' := vi (if x3 = 0 then (0 : Int) else (if x4 = 0 then (1 : Int) else (if v4 = 32 then (0 : Int) else 1)))) X (congrArg (fun q => vi q) (show 1 = if x3 = 0 then (0 : Int) else (if x4 = 0 then (1 : Int) else (if v4 = 32 then (0 : Int) else 1)) from ((if_neg hq20).trans ((if_pos hq21))).symm)) ?_
              exact hv19
            · skip
              refine go_iload X d_Model_capitals_85 rfl ?_
              refine go_bipush (v := 32) X d_Model_capitals_87 (by decide) ?_
              refine go_icmp_eq (tgt := 96) X d_Model_capitals_89 rfl hv10 (by decide) (fun hq22 => ?_) (fun hq22 => ?_)
              · skip
                refine go_iconst (v := 0) X d_Model_capitals_96 ?_
                refine go_top (v' := vi (if x3 = 0 then (0 : Int) else (if x4 = 0 then (1 : Int) else (if v4 = 32 then (0 : Int) else 1)))) X (congrArg (fun q => vi q) (show 0 = if x3 = 0 then (0 : Int) else (if x4 = 0 then (1 : Int) else (if v4 = 32 then (0 : Int) else 1)) from ((if_neg hq20).trans ((if_neg hq21).trans ((if_pos hq22)))).symm)) ?_
                exact hv19
              · skip
                refine go_iconst (v := 1) X d_Model_capitals_92 ?_
                refine go_goto (tgt := 97) X d_Model_capitals_93 rfl ?_
                refine go_top (v' := vi (if x3 = 0 then (0 : Int) else (if x4 = 0 then (1 : Int) else (if v4 = 32 then (0 : Int) else 1)))) X (congrArg (fun q => vi q) (show 1 = if x3 = 0 then (0 : Int) else (if x4 = 0 then (1 : Int) else (if v4 = 32 then (0 : Int) else 1)) from ((if_neg hq20).trans ((if_neg hq21).trans ((if_neg hq22)))).symm)) ?_
                exact hv19
        refine go_istore (lv' := [(7, vi (if x3 = 0 then (0 : Int) else (if x4 = 0 then (1 : Int) else (if v4 = 32 then (0 : Int) else 1)))), (2, vi (x2 + (if v4 = 123 then (1 : Int) else (if v4 = 125 then (if 0 < x2 then ((-1) : Int) else 0 : Int) else 0)))), (6, vi (if x2 = 0 then (1 : Int) else 0)), (5, vi v4), (0, vr r), (1, vi x1), (3, vi x3), (4, vi x4)]) X d_Model_capitals_97 (by decide) rfl ?_
        refine go_aload_n X d_Model_capitals_99 rfl rfl ?_
        refine go_bipush (v := 84) X d_Model_capitals_100 (by decide) ?_
        refine go_iload X d_Model_capitals_102 rfl ?_
        suffices hv23 : Go g 0 0 sh M8 sz 139 [(7, vi (if x3 = 0 then (0 : Int) else (if x4 = 0 then (1 : Int) else (if v4 = 32 then (0 : Int) else 1)))), (2, vi (x2 + (if v4 = 123 then (1 : Int) else (if v4 = 125 then (if 0 < x2 then ((-1) : Int) else 0 : Int) else 0)))), (6, vi (if x2 = 0 then (1 : Int) else 0)), (5, vi v4), (0, vr r), (1, vi x1), (3, vi x3), (4, vi x4)] [vi (if (if x2 = 0 then (1 : Int) else 0) = 0 then (v4 : Int) else (if x1 = 0 then (if (if x3 = 0 then (0 : Int) else (if x4 = 0 then (1 : Int) else (if v4 = 32 then (0 : Int) else 1))) = 0 then (if x1 = 2 then (p_upp v4 : Int) else (p_low v4) : Int) else v4 : Int) else (if x1 = 2 then (p_upp v4 : Int) else (p_low v4)))), vi 84, vr r] by
          refine go_if_eq (tgt := 116) X d_Model_capitals_104 rfl (rI_ite (by decide) (by decide)) (fun hq24 => ?_) (fun hq24 => ?_)
          · skip
            refine go_iload X d_Model_capitals_116 rfl ?_
            refine go_goto (tgt := 139) X d_Model_capitals_118 rfl ?_
            refine go_top (v' := vi (if (if x2 = 0 then (1 : Int) else 0) = 0 then (v4 : Int) else (if x1 = 0 then (if (if x3 = 0 then (0 : Int) else (if x4 = 0 then (1 : Int) else (if v4 = 32 then (0 : Int) else 1))) = 0 then (if x1 = 2 then (p_upp v4 : Int) else (p_low v4) : Int) else v4 : Int) else (if x1 = 2 then (p_upp v4 : Int) else (p_low v4))))) X (congrArg (fun q => vi q) (show v4 = if (if x2 = 0 then (1 : Int) else 0) = 0 then (v4 : Int) else (if x1 = 0 then (if (if x3 = 0 then (0 : Int) else (if x4 = 0 then (1 : Int) else (if v4 = 32 then (0 : Int) else 1))) = 0 then (if x1 = 2 then (p_upp v4 : Int) else (p_low v4) : Int) else v4 : Int) else (if x1 = 2 then (p_upp v4 : Int) else (p_low v4))) from ((if_pos hq24)).symm)) ?_
            exact hv23
          · skip
            refine go_iload_n X d_Model_capitals_107 rfl rfl ?_
            refine go_if_ne (tgt := 121) X d_Model_capitals_108 rfl hx1 (fun hq25 => ?_) (fun hq25 => ?_)
            · skip
              refine go_iload_n X d_Model_capitals_121 rfl rfl ?_
              refine go_iconst (v := 2) X d_Model_capitals_122 ?_
              refine go_icmp_ne (tgt := 134) X d_Model_capitals_123 rfl hx1 (by decide) (fun hq26 => ?_) (fun hq26 => ?_)
              · skip
                refine go_iload X d_Model_capitals_134 rfl ?_
                refine go_cSf (st2 := [vi (p_low v4), vi 84, vr r]) (r := [vi 84, vr r]) X k_Model_116 (m_small l D hv10) rfl rfl (by decide) (Nat.le_of_ble_eq_true rfl) d_Model_capitals_136 (by decide) (by decide) rfl ?_
                refine go_top (v' := vi (if (if x2 = 0 then (1 : Int) else 0) = 0 then (v4 : Int) else (if x1 = 0 then (if (if x3 = 0 then (0 : Int) else (if x4 = 0 then (1 : Int) else (if v4 = 32 then (0 : Int) else 1))) = 0 then (if x1 = 2 then (p_upp v4 : Int) else (p_low v4) : Int) else v4 : Int) else (if x1 = 2 then (p_upp v4 : Int) else (p_low v4))))) X (congrArg (fun q => vi q) (show p_low v4 = if (if x2 = 0 then (1 : Int) else 0) = 0 then (v4 : Int) else (if x1 = 0 then (if (if x3 = 0 then (0 : Int) else (if x4 = 0 then (1 : Int) else (if v4 = 32 then (0 : Int) else 1))) = 0 then (if x1 = 2 then (p_upp v4 : Int) else (p_low v4) : Int) else v4 : Int) else (if x1 = 2 then (p_upp v4 : Int) else (p_low v4))) from ((if_neg hq24).trans ((if_neg hq25).trans ((if_neg hq26)))).symm)) ?_
                exact hv23
              · skip
                refine go_iload X d_Model_capitals_126 rfl ?_
                refine go_cSf (st2 := [vi (p_upp v4), vi 84, vr r]) (r := [vi 84, vr r]) X k_Model_342 (m_large l D hv10) rfl rfl (by decide) (Nat.le_of_ble_eq_true rfl) d_Model_capitals_128 (by decide) (by decide) rfl ?_
                refine go_goto (tgt := 139) X d_Model_capitals_131 rfl ?_
                refine go_top (v' := vi (if (if x2 = 0 then (1 : Int) else 0) = 0 then (v4 : Int) else (if x1 = 0 then (if (if x3 = 0 then (0 : Int) else (if x4 = 0 then (1 : Int) else (if v4 = 32 then (0 : Int) else 1))) = 0 then (if x1 = 2 then (p_upp v4 : Int) else (p_low v4) : Int) else v4 : Int) else (if x1 = 2 then (p_upp v4 : Int) else (p_low v4))))) X (congrArg (fun q => vi q) (show p_upp v4 = if (if x2 = 0 then (1 : Int) else 0) = 0 then (v4 : Int) else (if x1 = 0 then (if (if x3 = 0 then (0 : Int) else (if x4 = 0 then (1 : Int) else (if v4 = 32 then (0 : Int) else 1))) = 0 then (if x1 = 2 then (p_upp v4 : Int) else (p_low v4) : Int) else v4 : Int) else (if x1 = 2 then (p_upp v4 : Int) else (p_low v4))) from ((if_neg hq24).trans ((if_neg hq25).trans ((if_pos hq26)))).symm)) ?_
                exact hv23
            · skip
              refine go_iload X d_Model_capitals_111 rfl ?_
              refine go_if_eq (tgt := 121) X d_Model_capitals_113 rfl (rI_ite (by decide) (rI_ite (by decide) (rI_ite (by decide) (by decide)))) (fun hq27 => ?_) (fun hq27 => ?_)
              · skip
                refine go_iload_n X d_Model_capitals_121 rfl rfl ?_
                refine go_iconst (v := 2) X d_Model_capitals_122 ?_
                refine go_icmp_ne (tgt := 134) X d_Model_capitals_123 rfl hx1 (by decide) (fun hq28 => ?_) (fun hq28 => ?_)
                · skip
                  refine go_iload X d_Model_capitals_134 rfl ?_
                  refine go_cSf (st2 := [vi (p_low v4), vi 84, vr r]) (r := [vi 84, vr r]) X k_Model_116 (m_small l D hv10) rfl rfl (by decide) (Nat.le_of_ble_eq_true rfl) d_Model_capitals_136 (by decide) (by decide) rfl ?_
                  refine go_top (v' := vi (if (if x2 = 0 then (1 : Int) else 0) = 0 then (v4 : Int) else (if x1 = 0 then (if (if x3 = 0 then (0 : Int) else (if x4 = 0 then (1 : Int) else (if v4 = 32 then (0 : Int) else 1))) = 0 then (if x1 = 2 then (p_upp v4 : Int) else (p_low v4) : Int) else v4 : Int) else (if x1 = 2 then (p_upp v4 : Int) else (p_low v4))))) X (congrArg (fun q => vi q) (show p_low v4 = if (if x2 = 0 then (1 : Int) else 0) = 0 then (v4 : Int) else (if x1 = 0 then (if (if x3 = 0 then (0 : Int) else (if x4 = 0 then (1 : Int) else (if v4 = 32 then (0 : Int) else 1))) = 0 then (if x1 = 2 then (p_upp v4 : Int) else (p_low v4) : Int) else v4 : Int) else (if x1 = 2 then (p_upp v4 : Int) else (p_low v4))) from ((if_neg hq24).trans ((if_pos hq25).trans ((if_pos hq27).trans ((if_neg hq28))))).symm)) ?_
                  exact hv23
                · skip
                  refine go_iload X d_Model_capitals_126 rfl ?_
                  refine go_cSf (st2 := [vi (p_upp v4), vi 84, vr r]) (r := [vi 84, vr r]) X k_Model_342 (m_large l D hv10) rfl rfl (by decide) (Nat.le_of_ble_eq_true rfl) d_Model_capitals_128 (by decide) (by decide) rfl ?_
                  refine go_goto (tgt := 139) X d_Model_capitals_131 rfl ?_
                  refine go_top (v' := vi (if (if x2 = 0 then (1 : Int) else 0) = 0 then (v4 : Int) else (if x1 = 0 then (if (if x3 = 0 then (0 : Int) else (if x4 = 0 then (1 : Int) else (if v4 = 32 then (0 : Int) else 1))) = 0 then (if x1 = 2 then (p_upp v4 : Int) else (p_low v4) : Int) else v4 : Int) else (if x1 = 2 then (p_upp v4 : Int) else (p_low v4))))) X (congrArg (fun q => vi q) (show p_upp v4 = if (if x2 = 0 then (1 : Int) else 0) = 0 then (v4 : Int) else (if x1 = 0 then (if (if x3 = 0 then (0 : Int) else (if x4 = 0 then (1 : Int) else (if v4 = 32 then (0 : Int) else 1))) = 0 then (if x1 = 2 then (p_upp v4 : Int) else (p_low v4) : Int) else v4 : Int) else (if x1 = 2 then (p_upp v4 : Int) else (p_low v4))) from ((if_neg hq24).trans ((if_pos hq25).trans ((if_pos hq27).trans ((if_pos hq28))))).symm)) ?_
                  exact hv23
              · skip
                refine go_iload X d_Model_capitals_116 rfl ?_
                refine go_goto (tgt := 139) X d_Model_capitals_118 rfl ?_
                refine go_top (v' := vi (if (if x2 = 0 then (1 : Int) else 0) = 0 then (v4 : Int) else (if x1 = 0 then (if (if x3 = 0 then (0 : Int) else (if x4 = 0 then (1 : Int) else (if v4 = 32 then (0 : Int) else 1))) = 0 then (if x1 = 2 then (p_upp v4 : Int) else (p_low v4) : Int) else v4 : Int) else (if x1 = 2 then (p_upp v4 : Int) else (p_low v4))))) X (congrArg (fun q => vi q) (show v4 = if (if x2 = 0 then (1 : Int) else 0) = 0 then (v4 : Int) else (if x1 = 0 then (if (if x3 = 0 then (0 : Int) else (if x4 = 0 then (1 : Int) else (if v4 = 32 then (0 : Int) else 1))) = 0 then (if x1 = 2 then (p_upp v4 : Int) else (p_low v4) : Int) else v4 : Int) else (if x1 = 2 then (p_upp v4 : Int) else (p_low v4))) from ((if_neg hq24).trans ((if_pos hq25).trans ((if_neg hq27)))).symm)) ?_
                exact hv23
        obtain ⟨v29, S30, hG31, hF32⟩ := bnd_t hF18
        refine go_cV (st2 := []) (r := []) X k_Model_124 (a_add l D md9 (by decide) (rI_ite hv10 (rI_ite (rI_ite (rI_ite (rI_large hv10) (rI_small hv10)) hv10) (rI_ite (rI_large hv10) (rI_small hv10)))) hG31) md9.1.1 rfl rfl (by decide) (Nat.le_of_ble_eq_true rfl) d_Model_capitals_139 (by decide) (by decide) (fun v' sh' M33 sz' hpp => ?_)
        obtain ⟨e1, e2, e3, md34⟩ := hpp
        subst e1
        rw [e2, e3]
        clear e2 e3
        show Go g 0 0 sh M33 sz 142 [(7, vi (if x3 = 0 then (0 : Int) else (if x4 = 0 then (1 : Int) else (if v4 = 32 then (0 : Int) else 1)))), (2, vi (x2 + (if v4 = 123 then (1 : Int) else (if v4 = 125 then (if 0 < x2 then ((-1) : Int) else 0 : Int) else 0)))), (6, vi (if x2 = 0 then (1 : Int) else 0)), (5, vi v4), (0, vr r), (1, vi x1), (3, vi x3), (4, vi x4)] []
        refine go_iload X d_Model_capitals_142 rfl ?_
        suffices hv36 : Go g 0 0 sh M33 sz 175 [(7, vi (if x3 = 0 then (0 : Int) else (if x4 = 0 then (1 : Int) else (if v4 = 32 then (0 : Int) else 1)))), (2, vi (x2 + (if v4 = 123 then (1 : Int) else (if v4 = 125 then (if 0 < x2 then ((-1) : Int) else 0 : Int) else 0)))), (6, vi (if x2 = 0 then (1 : Int) else 0)), (5, vi v4), (0, vr r), (1, vi x1), (3, vi x3), (4, vi x4)] [vi (if (if x2 = 0 then (1 : Int) else 0) = 0 then (if x3 = 0 then (0 : Int) else (if 0 < x4 then (if v4 = 32 then (1 : Int) else 0 : Int) else 0) : Int) else (if v4 = 58 then (1 : Int) else (if x3 = 0 then (0 : Int) else (if 0 < x4 then (if v4 = 32 then (1 : Int) else 0 : Int) else 0))))] by
          refine go_if_eq (tgt := 154) X d_Model_capitals_144 rfl (rI_ite (by decide) (by decide)) (fun hq37 => ?_) (fun hq37 => ?_)
          · skip
            refine go_iload_n X d_Model_capitals_154 rfl rfl ?_
            refine go_if_eq (tgt := 174) X d_Model_capitals_155 rfl hx3 (fun hq38 => ?_) (fun hq38 => ?_)
            · skip
              refine go_iconst (v := 0) X d_Model_capitals_174 ?_
              refine go_top (v' := vi (if (if x2 = 0 then (1 : Int) else 0) = 0 then (if x3 = 0 then (0 : Int) else (if 0 < x4 then (if v4 = 32 then (1 : Int) else 0 : Int) else 0) : Int) else (if v4 = 58 then (1 : Int) else (if x3 = 0 then (0 : Int) else (if 0 < x4 then (if v4 = 32 then (1 : Int) else 0 : Int) else 0))))) X (congrArg (fun q => vi q) (show 0 = if (if x2 = 0 then (1 : Int) else 0) = 0 then (if x3 = 0 then (0 : Int) else (if 0 < x4 then (if v4 = 32 then (1 : Int) else 0 : Int) else 0) : Int) else (if v4 = 58 then (1 : Int) else (if x3 = 0 then (0 : Int) else (if 0 < x4 then (if v4 = 32 then (1 : Int) else 0 : Int) else 0))) from ((if_pos hq37).trans ((if_pos hq38))).symm)) ?_
              exact hv36
            · skip
              refine go_iload X d_Model_capitals_158 rfl ?_
              refine go_if_le (tgt := 174) X d_Model_capitals_160 rfl hx4 (fun hq39 => ?_) (fun hq39 => ?_)
              · skip
                refine go_iconst (v := 0) X d_Model_capitals_174 ?_
                refine go_top (v' := vi (if (if x2 = 0 then (1 : Int) else 0) = 0 then (if x3 = 0 then (0 : Int) else (if 0 < x4 then (if v4 = 32 then (1 : Int) else 0 : Int) else 0) : Int) else (if v4 = 58 then (1 : Int) else (if x3 = 0 then (0 : Int) else (if 0 < x4 then (if v4 = 32 then (1 : Int) else 0 : Int) else 0))))) X (congrArg (fun q => vi q) (show 0 = if (if x2 = 0 then (1 : Int) else 0) = 0 then (if x3 = 0 then (0 : Int) else (if 0 < x4 then (if v4 = 32 then (1 : Int) else 0 : Int) else 0) : Int) else (if v4 = 58 then (1 : Int) else (if x3 = 0 then (0 : Int) else (if 0 < x4 then (if v4 = 32 then (1 : Int) else 0 : Int) else 0))) from ((if_pos hq37).trans ((if_neg hq38).trans ((if_neg (Int.not_lt.mpr hq39))))).symm)) ?_
                exact hv36
              · skip
                refine go_iload X d_Model_capitals_163 rfl ?_
                refine go_bipush (v := 32) X d_Model_capitals_165 (by decide) ?_
                refine go_icmp_ne (tgt := 174) X d_Model_capitals_167 rfl hv10 (by decide) (fun hq40 => ?_) (fun hq40 => ?_)
                · skip
                  refine go_iconst (v := 0) X d_Model_capitals_174 ?_
                  refine go_top (v' := vi (if (if x2 = 0 then (1 : Int) else 0) = 0 then (if x3 = 0 then (0 : Int) else (if 0 < x4 then (if v4 = 32 then (1 : Int) else 0 : Int) else 0) : Int) else (if v4 = 58 then (1 : Int) else (if x3 = 0 then (0 : Int) else (if 0 < x4 then (if v4 = 32 then (1 : Int) else 0 : Int) else 0))))) X (congrArg (fun q => vi q) (show 0 = if (if x2 = 0 then (1 : Int) else 0) = 0 then (if x3 = 0 then (0 : Int) else (if 0 < x4 then (if v4 = 32 then (1 : Int) else 0 : Int) else 0) : Int) else (if v4 = 58 then (1 : Int) else (if x3 = 0 then (0 : Int) else (if 0 < x4 then (if v4 = 32 then (1 : Int) else 0 : Int) else 0))) from ((if_pos hq37).trans ((if_neg hq38).trans ((if_pos hq39).trans ((if_neg hq40))))).symm)) ?_
                  exact hv36
                · skip
                  refine go_iconst (v := 1) X d_Model_capitals_170 ?_
                  refine go_goto (tgt := 175) X d_Model_capitals_171 rfl ?_
                  refine go_top (v' := vi (if (if x2 = 0 then (1 : Int) else 0) = 0 then (if x3 = 0 then (0 : Int) else (if 0 < x4 then (if v4 = 32 then (1 : Int) else 0 : Int) else 0) : Int) else (if v4 = 58 then (1 : Int) else (if x3 = 0 then (0 : Int) else (if 0 < x4 then (if v4 = 32 then (1 : Int) else 0 : Int) else 0))))) X (congrArg (fun q => vi q) (show 1 = if (if x2 = 0 then (1 : Int) else 0) = 0 then (if x3 = 0 then (0 : Int) else (if 0 < x4 then (if v4 = 32 then (1 : Int) else 0 : Int) else 0) : Int) else (if v4 = 58 then (1 : Int) else (if x3 = 0 then (0 : Int) else (if 0 < x4 then (if v4 = 32 then (1 : Int) else 0 : Int) else 0))) from ((if_pos hq37).trans ((if_neg hq38).trans ((if_pos hq39).trans ((if_pos hq40))))).symm)) ?_
                  exact hv36
          · skip
            refine go_iload X d_Model_capitals_147 rfl ?_
            refine go_bipush (v := 58) X d_Model_capitals_149 (by decide) ?_
            refine go_icmp_eq (tgt := 170) X d_Model_capitals_151 rfl hv10 (by decide) (fun hq41 => ?_) (fun hq41 => ?_)
            · skip
              refine go_iconst (v := 1) X d_Model_capitals_170 ?_
              refine go_goto (tgt := 175) X d_Model_capitals_171 rfl ?_
              refine go_top (v' := vi (if (if x2 = 0 then (1 : Int) else 0) = 0 then (if x3 = 0 then (0 : Int) else (if 0 < x4 then (if v4 = 32 then (1 : Int) else 0 : Int) else 0) : Int) else (if v4 = 58 then (1 : Int) else (if x3 = 0 then (0 : Int) else (if 0 < x4 then (if v4 = 32 then (1 : Int) else 0 : Int) else 0))))) X (congrArg (fun q => vi q) (show 1 = if (if x2 = 0 then (1 : Int) else 0) = 0 then (if x3 = 0 then (0 : Int) else (if 0 < x4 then (if v4 = 32 then (1 : Int) else 0 : Int) else 0) : Int) else (if v4 = 58 then (1 : Int) else (if x3 = 0 then (0 : Int) else (if 0 < x4 then (if v4 = 32 then (1 : Int) else 0 : Int) else 0))) from ((if_neg hq37).trans ((if_pos hq41))).symm)) ?_
              exact hv36
            · skip
              refine go_iload_n X d_Model_capitals_154 rfl rfl ?_
              refine go_if_eq (tgt := 174) X d_Model_capitals_155 rfl hx3 (fun hq42 => ?_) (fun hq42 => ?_)
              · skip
                refine go_iconst (v := 0) X d_Model_capitals_174 ?_
                refine go_top (v' := vi (if (if x2 = 0 then (1 : Int) else 0) = 0 then (if x3 = 0 then (0 : Int) else (if 0 < x4 then (if v4 = 32 then (1 : Int) else 0 : Int) else 0) : Int) else (if v4 = 58 then (1 : Int) else (if x3 = 0 then (0 : Int) else (if 0 < x4 then (if v4 = 32 then (1 : Int) else 0 : Int) else 0))))) X (congrArg (fun q => vi q) (show 0 = if (if x2 = 0 then (1 : Int) else 0) = 0 then (if x3 = 0 then (0 : Int) else (if 0 < x4 then (if v4 = 32 then (1 : Int) else 0 : Int) else 0) : Int) else (if v4 = 58 then (1 : Int) else (if x3 = 0 then (0 : Int) else (if 0 < x4 then (if v4 = 32 then (1 : Int) else 0 : Int) else 0))) from ((if_neg hq37).trans ((if_neg hq41).trans ((if_pos hq42)))).symm)) ?_
                exact hv36
              · skip
                refine go_iload X d_Model_capitals_158 rfl ?_
                refine go_if_le (tgt := 174) X d_Model_capitals_160 rfl hx4 (fun hq43 => ?_) (fun hq43 => ?_)
                · skip
                  refine go_iconst (v := 0) X d_Model_capitals_174 ?_
                  refine go_top (v' := vi (if (if x2 = 0 then (1 : Int) else 0) = 0 then (if x3 = 0 then (0 : Int) else (if 0 < x4 then (if v4 = 32 then (1 : Int) else 0 : Int) else 0) : Int) else (if v4 = 58 then (1 : Int) else (if x3 = 0 then (0 : Int) else (if 0 < x4 then (if v4 = 32 then (1 : Int) else 0 : Int) else 0))))) X (congrArg (fun q => vi q) (show 0 = if (if x2 = 0 then (1 : Int) else 0) = 0 then (if x3 = 0 then (0 : Int) else (if 0 < x4 then (if v4 = 32 then (1 : Int) else 0 : Int) else 0) : Int) else (if v4 = 58 then (1 : Int) else (if x3 = 0 then (0 : Int) else (if 0 < x4 then (if v4 = 32 then (1 : Int) else 0 : Int) else 0))) from ((if_neg hq37).trans ((if_neg hq41).trans ((if_neg hq42).trans ((if_neg (Int.not_lt.mpr hq43)))))).symm)) ?_
                  exact hv36
                · skip
                  refine go_iload X d_Model_capitals_163 rfl ?_
                  refine go_bipush (v := 32) X d_Model_capitals_165 (by decide) ?_
                  refine go_icmp_ne (tgt := 174) X d_Model_capitals_167 rfl hv10 (by decide) (fun hq44 => ?_) (fun hq44 => ?_)
                  · skip
                    refine go_iconst (v := 0) X d_Model_capitals_174 ?_
                    refine go_top (v' := vi (if (if x2 = 0 then (1 : Int) else 0) = 0 then (if x3 = 0 then (0 : Int) else (if 0 < x4 then (if v4 = 32 then (1 : Int) else 0 : Int) else 0) : Int) else (if v4 = 58 then (1 : Int) else (if x3 = 0 then (0 : Int) else (if 0 < x4 then (if v4 = 32 then (1 : Int) else 0 : Int) else 0))))) X (congrArg (fun q => vi q) (show 0 = if (if x2 = 0 then (1 : Int) else 0) = 0 then (if x3 = 0 then (0 : Int) else (if 0 < x4 then (if v4 = 32 then (1 : Int) else 0 : Int) else 0) : Int) else (if v4 = 58 then (1 : Int) else (if x3 = 0 then (0 : Int) else (if 0 < x4 then (if v4 = 32 then (1 : Int) else 0 : Int) else 0))) from ((if_neg hq37).trans ((if_neg hq41).trans ((if_neg hq42).trans ((if_pos hq43).trans ((if_neg hq44)))))).symm)) ?_
                    exact hv36
                  · skip
                    refine go_iconst (v := 1) X d_Model_capitals_170 ?_
                    refine go_goto (tgt := 175) X d_Model_capitals_171 rfl ?_
                    refine go_top (v' := vi (if (if x2 = 0 then (1 : Int) else 0) = 0 then (if x3 = 0 then (0 : Int) else (if 0 < x4 then (if v4 = 32 then (1 : Int) else 0 : Int) else 0) : Int) else (if v4 = 58 then (1 : Int) else (if x3 = 0 then (0 : Int) else (if 0 < x4 then (if v4 = 32 then (1 : Int) else 0 : Int) else 0))))) X (congrArg (fun q => vi q) (show 1 = if (if x2 = 0 then (1 : Int) else 0) = 0 then (if x3 = 0 then (0 : Int) else (if 0 < x4 then (if v4 = 32 then (1 : Int) else 0 : Int) else 0) : Int) else (if v4 = 58 then (1 : Int) else (if x3 = 0 then (0 : Int) else (if 0 < x4 then (if v4 = 32 then (1 : Int) else 0 : Int) else 0))) from ((if_neg hq37).trans ((if_neg hq41).trans ((if_neg hq42).trans ((if_pos hq43).trans ((if_pos hq44)))))).symm)) ?_
                    exact hv36
        refine go_istore_n (lv' := [(3, vi (if (if x2 = 0 then (1 : Int) else 0) = 0 then (if x3 = 0 then (0 : Int) else (if 0 < x4 then (if v4 = 32 then (1 : Int) else 0 : Int) else 0) : Int) else (if v4 = 58 then (1 : Int) else (if x3 = 0 then (0 : Int) else (if 0 < x4 then (if v4 = 32 then (1 : Int) else 0 : Int) else 0))))), (7, vi (if x3 = 0 then (0 : Int) else (if x4 = 0 then (1 : Int) else (if v4 = 32 then (0 : Int) else 1)))), (2, vi (x2 + (if v4 = 123 then (1 : Int) else (if v4 = 125 then (if 0 < x2 then ((-1) : Int) else 0 : Int) else 0)))), (6, vi (if x2 = 0 then (1 : Int) else 0)), (5, vi v4), (0, vr r), (1, vi x1), (4, vi x4)]) X d_Model_capitals_175 rfl (by decide) rfl ?_
        obtain ⟨hc45, hF46⟩ := chk_t hF32
        refine go_iinc (v := 1) (x := x4) (lv' := [(4, vi (x4 + 1)), (3, vi (if (if x2 = 0 then (1 : Int) else 0) = 0 then (if x3 = 0 then (0 : Int) else (if 0 < x4 then (if v4 = 32 then (1 : Int) else 0 : Int) else 0) : Int) else (if v4 = 58 then (1 : Int) else (if x3 = 0 then (0 : Int) else (if 0 < x4 then (if v4 = 32 then (1 : Int) else 0 : Int) else 0))))), (7, vi (if x3 = 0 then (0 : Int) else (if x4 = 0 then (1 : Int) else (if v4 = 32 then (0 : Int) else 1)))), (2, vi (x2 + (if v4 = 123 then (1 : Int) else (if v4 = 125 then (if 0 < x2 then ((-1) : Int) else 0 : Int) else 0)))), (6, vi (if x2 = 0 then (1 : Int) else 0)), (5, vi v4), (0, vr r), (1, vi x1)]) X d_Model_capitals_176 rfl (by decide) rfl ?_
        refine go_goto (tgt := 13) X d_Model_capitals_179 rfl ?_
        refine go_lv (lv' := [(0, vr r), (1, vi x1), (2, vi (x2 + (if v4 = 123 then (1 : Int) else (if v4 = 125 then (if 0 < x2 then ((-1) : Int) else 0 : Int) else 0)))), (3, vi (if (if x2 = 0 then (1 : Int) else 0) = 0 then (if x3 = 0 then (0 : Int) else (if 0 < x4 then (if v4 = 32 then (1 : Int) else 0 : Int) else 0) : Int) else (if v4 = 58 then (1 : Int) else (if x3 = 0 then (0 : Int) else (if 0 < x4 then (if v4 = 32 then (1 : Int) else 0 : Int) else 0))))), (4, vi (x4 + 1))]) X [6, 7, 3, 1, 0] rfl ?_
        exact ih13 x1 (x2 + (if v4 = 123 then (1 : Int) else (if v4 = 125 then (if 0 < x2 then ((-1) : Int) else 0 : Int) else 0))) (if (if x2 = 0 then (1 : Int) else 0) = 0 then (if x3 = 0 then (0 : Int) else (if 0 < x4 then (if v4 = 32 then (1 : Int) else 0 : Int) else 0) : Int) else (if v4 = 58 then (1 : Int) else (if x3 = 0 then (0 : Int) else (if 0 < x4 then (if v4 = 32 then (1 : Int) else 0 : Int) else 0)))) (x4 + 1) S30 M33 hx1 hc17 (rI_ite (rI_ite (by decide) (rI_ite (rI_ite (by decide) (by decide)) (by decide))) (rI_ite (by decide) (rI_ite (by decide) (rI_ite (rI_ite (by decide) (by decide)) (by decide))))) hc45 md34 hF46
  rw [A_capitals_e] at hF
  refine go_aload_n X d_Model_capitals_0 rfl rfl ?_
  refine go_bipush (v := 84) X d_Model_capitals_1 (by decide) ?_
  obtain ⟨v47, S48, hG49, hF50⟩ := bnd_t hF
  refine go_cV (st2 := []) (r := []) X k_Model_120 (a_clearText l D h (by decide) hG49) h.1.1 rfl rfl (by decide) (Nat.le_of_ble_eq_true rfl) d_Model_capitals_3 (by decide) (by decide) (fun v' sh' M51 sz' hpp => ?_)
  obtain ⟨e1, e2, e3, md52⟩ := hpp
  subst e1
  rw [e2, e3]
  clear e2 e3
  show Go g 0 0 sh M51 sz 6 [(0, vr r), (1, vi x1)] []
  refine go_iconst (v := 0) X d_Model_capitals_6 ?_
  refine go_istore_n (lv' := [(2, vi 0), (0, vr r), (1, vi x1)]) X d_Model_capitals_7 rfl (by decide) rfl ?_
  refine go_iconst (v := 1) X d_Model_capitals_8 ?_
  refine go_istore_n (lv' := [(3, vi 1), (2, vi 0), (0, vr r), (1, vi x1)]) X d_Model_capitals_9 rfl (by decide) rfl ?_
  refine go_iconst (v := 0) X d_Model_capitals_10 ?_
  refine go_istore (lv' := [(4, vi 0), (3, vi 1), (2, vi 0), (0, vr r), (1, vi x1)]) X d_Model_capitals_11 (by decide) rfl ?_
  refine go_lv (lv' := [(0, vr r), (1, vi x1), (2, vi 0), (3, vi 1), (4, vi 0)]) X [3, 4, 2, 1, 0] rfl ?_
  exact hL13 N x1 0 1 0 S48 M51 hx1 (by decide) (by decide) (by decide) md52 hF50
def A_isAnd_j97 (N : Nat) (y0 : Int) (S : s_M) : rO := chk (0 ≤ y0 ∧ y0 ≤ 1) <| some (y0, S)
theorem A_isAnd_j97_e (N : Nat) (y0 : Int) (S : s_M) : A_isAnd_j97 N y0 S = (chk (0 ≤ y0 ∧ y0 ≤ 1) <| some (y0, S)) := rfl
def A_isAnd_j96 (N : Nat) (S : s_M) : rO := A_isAnd_j97 N 0 S
theorem A_isAnd_j96_e (N : Nat) (S : s_M) : A_isAnd_j96 N S = (A_isAnd_j97 N 0 S) := rfl
def A_isAnd_j24 (N : Nat) (x1 x2 y0 : Int) (S : s_M) : rO := if y0 = 0 then (A_isAnd_j96 N  S) else (chk (rI (x1 - 1)) <| bnd (A_at N x2 (x1 - 1) S) fun v8 S9 => if v8 = 32 then (bnd (A_at N x2 x1 S9) fun v18 S19 => if v18 = 97 then (chk (rI (x1 + 1)) <| bnd (A_at N x2 (x1 + 1) S19) fun v30 S31 => if v30 = 110 then (chk (rI (x1 + 2)) <| bnd (A_at N x2 (x1 + 2) S31) fun v42 S43 => if v42 = 100 then (chk (rI (x1 + 3)) <| bnd (A_at N x2 (x1 + 3) S43) fun v54 S55 => if v54 = 32 then (A_isAnd_j97 N 1 S55) else (A_isAnd_j96 N  S55)) else (A_isAnd_j96 N  S43)) else (A_isAnd_j96 N  S31)) else (A_isAnd_j96 N  S19)) else (A_isAnd_j96 N  S9))
theorem A_isAnd_j24_e (N : Nat) (x1 x2 y0 : Int) (S : s_M) : A_isAnd_j24 N x1 x2 y0 S = (if y0 = 0 then (A_isAnd_j96 N  S) else (chk (rI (x1 - 1)) <| bnd (A_at N x2 (x1 - 1) S) fun v8 S9 => if v8 = 32 then (bnd (A_at N x2 x1 S9) fun v18 S19 => if v18 = 97 then (chk (rI (x1 + 1)) <| bnd (A_at N x2 (x1 + 1) S19) fun v30 S31 => if v30 = 110 then (chk (rI (x1 + 2)) <| bnd (A_at N x2 (x1 + 2) S31) fun v42 S43 => if v42 = 100 then (chk (rI (x1 + 3)) <| bnd (A_at N x2 (x1 + 3) S43) fun v54 S55 => if v54 = 32 then (A_isAnd_j97 N 1 S55) else (A_isAnd_j96 N  S55)) else (A_isAnd_j96 N  S43)) else (A_isAnd_j96 N  S31)) else (A_isAnd_j96 N  S19)) else (A_isAnd_j96 N  S9))) := rfl
def A_isAnd_j23 (N : Nat) (x1 x2 : Int) (S : s_M) : rO := A_isAnd_j24 N x1 x2 0 S
theorem A_isAnd_j23_e (N : Nat) (x1 x2 : Int) (S : s_M) : A_isAnd_j23 N x1 x2 S = (A_isAnd_j24 N x1 x2 0 S) := rfl
def A_isAnd (N : Nat) (x1 : Int) (S : s_M) : rO := if 0 < x1 then (chk (rI (x1 + 3)) <| if (x1 + 3) < (S 3 82) then (A_isAnd_j24 N x1 82 1 S) else (A_isAnd_j23 N x1 82 S)) else (A_isAnd_j23 N x1 82 S)
theorem A_isAnd_e (N : Nat) (x1 : Int) (S : s_M) : A_isAnd N x1 S = (if 0 < x1 then (chk (rI (x1 + 3)) <| if (x1 + 3) < (S 3 82) then (A_isAnd_j24 N x1 82 1 S) else (A_isAnd_j23 N x1 82 S)) else (A_isAnd_j23 N x1 82 S)) := rfl
set_option maxHeartbeats 4000000 in
set_option maxRecDepth 100000 in
theorem a_isAnd (l : Launch) (D : va_G) {sh : s_S} {M0 M : s_M} {sz r x1 : Int} {N : Nat} {S S0 : s_M} {v0 : Int} (h : mq sh M0 M r S) (hx1 : rI x1) (hF : A_isAnd N x1 S = some (v0, S0)) : Sp l D y_Model_isAnd prog_14_method_71_code 4 (some .boolean) 2 0 0 [vr r, vi x1] sh M sz (fun v' sh' M' sz' => v' = some (vi v0) ∧ sh' = sh ∧ sz' = sz ∧ rI v0 ∧ mq sh M0 M' r S0) := by
  have hr0 := h.1.2.1
  refine Sp.ofGo (own := "CiteForgeModel") (nm := "isAnd") (by decide) rfl rfl (Nat.le_of_ble_eq_true rfl) (lv := [(0, vr r), (1, vi x1)]) rfl ?_
  intro g X
  have hJ97 : ∀ (y0 : Int) (S1 M1 : s_M), rI y0 → mq sh M0 M1 r S1 → A_isAnd_j97 N y0 S1 = some (v0, S0) → Go g 0 0 sh M1 sz 97 [(0, vr r)] [vi y0] := by
    intro y0 S1 M1 hy0 hm hF
    rw [A_isAnd_j97_e] at hF
    obtain ⟨hc1, hF2⟩ := chk_t hF
    exact go_iret X d_Model_isAnd_97 rfl (n_nz hc1) (by decide) (by decide) (ret_i hF2 hy0 hm)
  have hJ96 : ∀ (S1 M1 : s_M), mq sh M0 M1 r S1 → A_isAnd_j96 N S1 = some (v0, S0) → Go g 0 0 sh M1 sz 96 [(0, vr r)] [] := by
    intro S1 M1 hm hF
    rw [A_isAnd_j96_e] at hF
    refine go_iconst (v := 0) X d_Model_isAnd_96 ?_
    refine go_lv (lv' := [(0, vr r)]) X [0] rfl ?_
    exact hJ97 0 S1 M1 (by decide) hm hF
  have hJ24 : ∀ (x1 x2 y0 : Int) (S1 M1 : s_M), rI x1 → rI x2 → rI y0 → mq sh M0 M1 r S1 → A_isAnd_j24 N x1 x2 y0 S1 = some (v0, S0) → Go g 0 0 sh M1 sz 24 [(0, vr r), (1, vi x1), (2, vi x2)] [vi y0] := by
    intro x1 x2 y0 S1 M1 hx1 hx2 hy0 hm hF
    rw [A_isAnd_j24_e] at hF
    refine go_istore_n (lv' := [(3, vi y0), (0, vr r), (1, vi x1), (2, vi x2)]) X d_Model_isAnd_24 rfl (by decide) rfl ?_
    refine go_iload_n X d_Model_isAnd_25 rfl rfl ?_
    refine go_if_eq (tgt := 96) X d_Model_isAnd_26 rfl hy0 (fun hq3 => ?_) (fun hq3 => ?_)
    · skip
      have hF4 := if_t hF hq3
      refine go_lv (lv' := [(0, vr r)]) X [1] rfl ?_
      exact hJ96  S1 M1  hm hF4
    · skip
      have hF5 := if_f hF hq3
      refine go_aload_n X d_Model_isAnd_29 rfl rfl ?_
      refine go_iload_n X d_Model_isAnd_30 rfl rfl ?_
      refine go_iload_n X d_Model_isAnd_31 rfl rfl ?_
      refine go_iconst (v := 1) X d_Model_isAnd_32 ?_
      refine go_isub X d_Model_isAnd_33 ?_
      obtain ⟨hc6, hF7⟩ := chk_t hF5
      obtain ⟨v8, S9, hG10, hF11⟩ := bnd_t hF7
      refine go_cV (st2 := []) (r := []) X k_Model_99 (a_at l D hm hx2 hc6 hG10) hm.1.1 rfl rfl (by decide) (Nat.le_of_ble_eq_true rfl) d_Model_isAnd_34 (by decide) (by decide) (fun v' sh' M12 sz' hpp => ?_)
      obtain ⟨e1, e2, e3, hv14, md13⟩ := hpp
      subst e1
      rw [e2, e3]
      clear e2 e3
      show Go g 0 0 sh M12 sz 37 [(3, vi y0), (0, vr r), (1, vi x1), (2, vi x2)] [vi v8]
      refine go_bipush (v := 32) X d_Model_isAnd_37 (by decide) ?_
      refine go_icmp_ne (tgt := 96) X d_Model_isAnd_39 rfl hv14 (by decide) (fun hq15 => ?_) (fun hq15 => ?_)
      · skip
        have hF16 := if_f hF11 hq15
        refine go_lv (lv' := [(0, vr r)]) X [1] rfl ?_
        exact hJ96  S9 M12  md13 hF16
      · skip
        have hF17 := if_t hF11 hq15
        refine go_aload_n X d_Model_isAnd_42 rfl rfl ?_
        refine go_iload_n X d_Model_isAnd_43 rfl rfl ?_
        refine go_iload_n X d_Model_isAnd_44 rfl rfl ?_
        obtain ⟨v18, S19, hG20, hF21⟩ := bnd_t hF17
        refine go_cV (st2 := []) (r := []) X k_Model_99 (a_at l D md13 hx2 hx1 hG20) md13.1.1 rfl rfl (by decide) (Nat.le_of_ble_eq_true rfl) d_Model_isAnd_45 (by decide) (by decide) (fun v' sh' M22 sz' hpp => ?_)
        obtain ⟨e1, e2, e3, hv24, md23⟩ := hpp
        subst e1
        rw [e2, e3]
        clear e2 e3
        show Go g 0 0 sh M22 sz 48 [(3, vi y0), (0, vr r), (1, vi x1), (2, vi x2)] [vi v18]
        refine go_bipush (v := 97) X d_Model_isAnd_48 (by decide) ?_
        refine go_icmp_ne (tgt := 96) X d_Model_isAnd_50 rfl hv24 (by decide) (fun hq25 => ?_) (fun hq25 => ?_)
        · skip
          have hF26 := if_f hF21 hq25
          refine go_lv (lv' := [(0, vr r)]) X [1] rfl ?_
          exact hJ96  S19 M22  md23 hF26
        · skip
          have hF27 := if_t hF21 hq25
          refine go_aload_n X d_Model_isAnd_53 rfl rfl ?_
          refine go_iload_n X d_Model_isAnd_54 rfl rfl ?_
          refine go_iload_n X d_Model_isAnd_55 rfl rfl ?_
          refine go_iconst (v := 1) X d_Model_isAnd_56 ?_
          refine go_iadd X d_Model_isAnd_57 ?_
          obtain ⟨hc28, hF29⟩ := chk_t hF27
          obtain ⟨v30, S31, hG32, hF33⟩ := bnd_t hF29
          refine go_cV (st2 := []) (r := []) X k_Model_99 (a_at l D md23 hx2 hc28 hG32) md23.1.1 rfl rfl (by decide) (Nat.le_of_ble_eq_true rfl) d_Model_isAnd_58 (by decide) (by decide) (fun v' sh' M34 sz' hpp => ?_)
          obtain ⟨e1, e2, e3, hv36, md35⟩ := hpp
          subst e1
          rw [e2, e3]
          clear e2 e3
          show Go g 0 0 sh M34 sz 61 [(3, vi y0), (0, vr r), (1, vi x1), (2, vi x2)] [vi v30]
          refine go_bipush (v := 110) X d_Model_isAnd_61 (by decide) ?_
          refine go_icmp_ne (tgt := 96) X d_Model_isAnd_63 rfl hv36 (by decide) (fun hq37 => ?_) (fun hq37 => ?_)
          · skip
            have hF38 := if_f hF33 hq37
            refine go_lv (lv' := [(0, vr r)]) X [1] rfl ?_
            exact hJ96  S31 M34  md35 hF38
          · skip
            have hF39 := if_t hF33 hq37
            refine go_aload_n X d_Model_isAnd_66 rfl rfl ?_
            refine go_iload_n X d_Model_isAnd_67 rfl rfl ?_
            refine go_iload_n X d_Model_isAnd_68 rfl rfl ?_
            refine go_iconst (v := 2) X d_Model_isAnd_69 ?_
            refine go_iadd X d_Model_isAnd_70 ?_
            obtain ⟨hc40, hF41⟩ := chk_t hF39
            obtain ⟨v42, S43, hG44, hF45⟩ := bnd_t hF41
            refine go_cV (st2 := []) (r := []) X k_Model_99 (a_at l D md35 hx2 hc40 hG44) md35.1.1 rfl rfl (by decide) (Nat.le_of_ble_eq_true rfl) d_Model_isAnd_71 (by decide) (by decide) (fun v' sh' M46 sz' hpp => ?_)
            obtain ⟨e1, e2, e3, hv48, md47⟩ := hpp
            subst e1
            rw [e2, e3]
            clear e2 e3
            show Go g 0 0 sh M46 sz 74 [(3, vi y0), (0, vr r), (1, vi x1), (2, vi x2)] [vi v42]
            refine go_bipush (v := 100) X d_Model_isAnd_74 (by decide) ?_
            refine go_icmp_ne (tgt := 96) X d_Model_isAnd_76 rfl hv48 (by decide) (fun hq49 => ?_) (fun hq49 => ?_)
            · skip
              have hF50 := if_f hF45 hq49
              refine go_lv (lv' := [(0, vr r)]) X [1] rfl ?_
              exact hJ96  S43 M46  md47 hF50
            · skip
              have hF51 := if_t hF45 hq49
              refine go_aload_n X d_Model_isAnd_79 rfl rfl ?_
              refine go_iload_n X d_Model_isAnd_80 rfl rfl ?_
              refine go_iload_n X d_Model_isAnd_81 rfl rfl ?_
              refine go_iconst (v := 3) X d_Model_isAnd_82 ?_
              refine go_iadd X d_Model_isAnd_83 ?_
              obtain ⟨hc52, hF53⟩ := chk_t hF51
              obtain ⟨v54, S55, hG56, hF57⟩ := bnd_t hF53
              refine go_cV (st2 := []) (r := []) X k_Model_99 (a_at l D md47 hx2 hc52 hG56) md47.1.1 rfl rfl (by decide) (Nat.le_of_ble_eq_true rfl) d_Model_isAnd_84 (by decide) (by decide) (fun v' sh' M58 sz' hpp => ?_)
              obtain ⟨e1, e2, e3, hv60, md59⟩ := hpp
              subst e1
              rw [e2, e3]
              clear e2 e3
              show Go g 0 0 sh M58 sz 87 [(3, vi y0), (0, vr r), (1, vi x1), (2, vi x2)] [vi v54]
              refine go_bipush (v := 32) X d_Model_isAnd_87 (by decide) ?_
              refine go_icmp_ne (tgt := 96) X d_Model_isAnd_89 rfl hv60 (by decide) (fun hq61 => ?_) (fun hq61 => ?_)
              · skip
                have hF62 := if_f hF57 hq61
                refine go_lv (lv' := [(0, vr r)]) X [1] rfl ?_
                exact hJ96  S55 M58  md59 hF62
              · skip
                have hF63 := if_t hF57 hq61
                refine go_iconst (v := 1) X d_Model_isAnd_92 ?_
                refine go_goto (tgt := 97) X d_Model_isAnd_93 rfl ?_
                refine go_lv (lv' := [(0, vr r)]) X [1] rfl ?_
                exact hJ97 1 S55 M58 (by decide) md59 hF63
  have hJ23 : ∀ (x1 x2 : Int) (S1 M1 : s_M), rI x1 → rI x2 → mq sh M0 M1 r S1 → A_isAnd_j23 N x1 x2 S1 = some (v0, S0) → Go g 0 0 sh M1 sz 23 [(0, vr r), (1, vi x1), (2, vi x2)] [] := by
    intro x1 x2 S1 M1 hx1 hx2 hm hF
    rw [A_isAnd_j23_e] at hF
    refine go_iconst (v := 0) X d_Model_isAnd_23 ?_
    refine go_lv (lv' := [(0, vr r), (1, vi x1), (2, vi x2)]) X [0, 1, 2] rfl ?_
    exact hJ24 x1 x2 0 S1 M1 hx1 hx2 (by decide) hm hF
  rw [A_isAnd_e] at hF
  refine go_bipush (v := 82) X d_Model_isAnd_0 (by decide) ?_
  refine go_istore_n (lv' := [(2, vi 82), (0, vr r), (1, vi x1)]) X d_Model_isAnd_2 rfl (by decide) rfl ?_
  refine go_iload_n X d_Model_isAnd_3 rfl rfl ?_
  refine go_if_le (tgt := 23) X d_Model_isAnd_4 rfl hx1 (fun hq64 => ?_) (fun hq64 => ?_)
  · skip
    have hF65 := if_f hF (Int.not_lt.mpr hq64)
    refine go_lv (lv' := [(0, vr r), (1, vi x1), (2, vi 82)]) X [1, 2, 0] rfl ?_
    exact hJ23 x1 82 S M hx1 (by decide) h hF65
  · skip
    have hF66 := if_t hF hq64
    refine go_iload_n X d_Model_isAnd_7 rfl rfl ?_
    refine go_iconst (v := 3) X d_Model_isAnd_8 ?_
    refine go_iadd X d_Model_isAnd_9 ?_
    obtain ⟨hc67, hF68⟩ := chk_t hF66
    refine go_aload_n X d_Model_isAnd_10 rfl rfl ?_
    refine go_get (v := vr (r + 3)) X f_Model_16 h.1.1 rfl d_Model_isAnd_11 (s_varr (h.1.2.2 2 _ rfl).2 (by omega)) ?_
    refine go_iload_n X d_Model_isAnd_14 rfl rfl ?_
    refine go_iald X (h.1.2.2 2 _ rfl).1 (by decide) (by decide) d_Model_isAnd_15 ?_
    refine go_top (v' := vi (S 3 82)) X (congrArg (fun q => vi q) ((h.a (by decide) 82).trans (rfl))) ?_
    refine go_icmp_ge (tgt := 23) X d_Model_isAnd_16 rfl hc67 (h.gA (by decide) 82) (fun hq69 => ?_) (fun hq69 => ?_)
    · skip
      have hF70 := if_f hF68 (Int.not_lt.mpr hq69)
      refine go_lv (lv' := [(0, vr r), (1, vi x1), (2, vi 82)]) X [1, 2, 0] rfl ?_
      exact hJ23 x1 82 S M hx1 (by decide) h hF70
    · skip
      have hF71 := if_t hF68 hq69
      refine go_iconst (v := 1) X d_Model_isAnd_19 ?_
      refine go_goto (tgt := 24) X d_Model_isAnd_20 rfl ?_
      refine go_lv (lv' := [(0, vr r), (1, vi x1), (2, vi 82)]) X [1, 2, 0] rfl ?_
      exact hJ24 x1 82 1 S M hx1 (by decide) (by decide) h hF71
def A_people_j50 (N : Nat) (k9 : Int → Int → Int → Int → s_M → rO) (x2 x3 x4 x5 y0 y1 : Int) (S : s_M) : rO := chk (rI (y1 + y0)) <| chk (rI (x2 + (if x5 = 123 then (1 : Int) else (if x5 = 125 then (if 0 < x2 then ((-1) : Int) else 0 : Int) else 0)))) <| chk (rI (x4 + 1)) <| k9 (y1 + y0) (x2 + (if x5 = 123 then (1 : Int) else (if x5 = 125 then (if 0 < x2 then ((-1) : Int) else 0 : Int) else 0))) (if x3 = 0 then (if x5 = 32 then (0 : Int) else 1 : Int) else 1) (x4 + 1) S
theorem A_people_j50_e (N : Nat) (k9 : Int → Int → Int → Int → s_M → rO) (x2 x3 x4 x5 y0 y1 : Int) (S : s_M) : A_people_j50 N k9 x2 x3 x4 x5 y0 y1 S = (chk (rI (y1 + y0)) <| chk (rI (x2 + (if x5 = 123 then (1 : Int) else (if x5 = 125 then (if 0 < x2 then ((-1) : Int) else 0 : Int) else 0)))) <| chk (rI (x4 + 1)) <| k9 (y1 + y0) (x2 + (if x5 = 123 then (1 : Int) else (if x5 = 125 then (if 0 < x2 then ((-1) : Int) else 0 : Int) else 0))) (if x3 = 0 then (if x5 = 32 then (0 : Int) else 1 : Int) else 1) (x4 + 1) S) := rfl
def A_people_j49 (N : Nat) (k9 : Int → Int → Int → Int → s_M → rO) (x2 x3 x4 x5 y0 : Int) (S : s_M) : rO := A_people_j50 N k9 x2 x3 x4 x5 0 y0 S
theorem A_people_j49_e (N : Nat) (k9 : Int → Int → Int → Int → s_M → rO) (x2 x3 x4 x5 y0 : Int) (S : s_M) : A_people_j49 N k9 x2 x3 x4 x5 y0 S = (A_people_j50 N k9 x2 x3 x4 x5 0 y0 S) := rfl
def A_people_l9 (N : Nat) : Nat → Int → Int → Int → Int → s_M → rO
  | 0, _, _, _, _, _ => none
  | n + 1, x1, x2, x3, x4, S => if x4 < (S 3 82) then (bnd (A_at N 82 x4 S) fun v19 S20 => if x2 = 0 then (bnd (A_isAnd N x4 S20) fun v29 S30 => if v29 = 0 then (A_people_j49 N (A_people_l9 N n) x2 x3 x4 v19 x1 S30) else (A_people_j50 N (A_people_l9 N n) x2 x3 x4 v19 1 x1 S30)) else (A_people_j49 N (A_people_l9 N n) x2 x3 x4 v19 x1 S20)) else (some (if x3 = 0 then (0 : Int) else x1, S))
theorem A_people_l9_e (N : Nat) (n : Nat) (x1 x2 x3 x4 : Int) (S : s_M) : A_people_l9 N (n + 1) x1 x2 x3 x4 S = (if x4 < (S 3 82) then (bnd (A_at N 82 x4 S) fun v19 S20 => if x2 = 0 then (bnd (A_isAnd N x4 S20) fun v29 S30 => if v29 = 0 then (A_people_j49 N (A_people_l9 N n) x2 x3 x4 v19 x1 S30) else (A_people_j50 N (A_people_l9 N n) x2 x3 x4 v19 1 x1 S30)) else (A_people_j49 N (A_people_l9 N n) x2 x3 x4 v19 x1 S20)) else (some (if x3 = 0 then (0 : Int) else x1, S))) := rfl
def A_people (N : Nat) (S : s_M) : rO := A_people_l9 N N 1 0 0 0 S
theorem A_people_e (N : Nat) (S : s_M) : A_people N S = (A_people_l9 N N 1 0 0 0 S) := rfl
set_option maxHeartbeats 4000000 in
set_option maxRecDepth 100000 in
theorem a_people (l : Launch) (D : va_G) {sh : s_S} {M0 M : s_M} {sz r  : Int} {N : Nat} {S S0 : s_M} {v0 : Int} (h : mq sh M0 M r S) (hF : A_people N S = some (v0, S0)) : Sp l D y_Model_people prog_14_method_72_code 6 (some .int) 3 0 0 [vr r] sh M sz (fun v' sh' M' sz' => v' = some (vi v0) ∧ sh' = sh ∧ sz' = sz ∧ rI v0 ∧ mq sh M0 M' r S0) := by
  have hr0 := h.1.2.1
  refine Sp.ofGo (own := "CiteForgeModel") (nm := "people") (by decide) rfl rfl (Nat.le_of_ble_eq_true rfl) (lv := [(0, vr r)]) rfl ?_
  intro g X
  have hL9 : ∀ (n9 : Nat) (x1 x2 x3 x4 : Int) (S1 M1 : s_M), rI x1 → rI x2 → rI x3 → rI x4 → mq sh M0 M1 r S1 → A_people_l9 N n9 x1 x2 x3 x4 S1 = some (v0, S0) → Go g 0 0 sh M1 sz 9 [(0, vr r), (1, vi x1), (2, vi x2), (3, vi x3), (4, vi x4)] [] := by
    intro n9
    induction n9 with
    | zero => intro x1 x2 x3 x4 S1 M1 hx1 hx2 hx3 hx4 hm hF; cases hF
    | succ n9 ih9 =>
      have hJ50 : ∀ (x2 x3 x4 x5 y0 y1 : Int) (S1 M1 : s_M), rI x2 → rI x3 → rI x4 → rI x5 → rI y0 → rI y1 → mq sh M0 M1 r S1 → A_people_j50 N (A_people_l9 N n9) x2 x3 x4 x5 y0 y1 S1 = some (v0, S0) → Go g 0 0 sh M1 sz 50 [(0, vr r), (2, vi x2), (3, vi x3), (4, vi x4), (5, vi x5)] [vi y0, vi y1] := by
        intro x2 x3 x4 x5 y0 y1 S1 M1 hx2 hx3 hx4 hx5 hy0 hy1 hm hF
        rw [A_people_j50_e] at hF
        refine go_iadd X d_Model_people_50 ?_
        obtain ⟨hc1, hF2⟩ := chk_t hF
        refine go_istore_n (lv' := [(1, vi (y1 + y0)), (0, vr r), (2, vi x2), (3, vi x3), (4, vi x4), (5, vi x5)]) X d_Model_people_51 rfl (by decide) rfl ?_
        refine go_iload_n X d_Model_people_52 rfl rfl ?_
        refine go_iload X d_Model_people_53 rfl ?_
        refine go_bipush (v := 123) X d_Model_people_55 (by decide) ?_
        suffices hv3 : Go g 0 0 sh M1 sz 80 [(1, vi (y1 + y0)), (0, vr r), (2, vi x2), (3, vi x3), (4, vi x4), (5, vi x5)] [vi (if x5 = 123 then (1 : Int) else (if x5 = 125 then (if 0 < x2 then ((-1) : Int) else 0 : Int) else 0)), vi x2] by
          refine go_icmp_ne (tgt := 64) X d_Model_people_57 rfl hx5 (by decide) (fun hq4 => ?_) (fun hq4 => ?_)
          · skip
            refine go_iload X d_Model_people_64 rfl ?_
            refine go_bipush (v := 125) X d_Model_people_66 (by decide) ?_
            refine go_icmp_ne (tgt := 79) X d_Model_people_68 rfl hx5 (by decide) (fun hq5 => ?_) (fun hq5 => ?_)
            · skip
              refine go_iconst (v := 0) X d_Model_people_79 ?_
              refine go_top (v' := vi (if x5 = 123 then (1 : Int) else (if x5 = 125 then (if 0 < x2 then ((-1) : Int) else 0 : Int) else 0))) X (congrArg (fun q => vi q) (show 0 = if x5 = 123 then (1 : Int) else (if x5 = 125 then (if 0 < x2 then ((-1) : Int) else 0 : Int) else 0) from ((if_neg hq4).trans ((if_neg hq5))).symm)) ?_
              exact hv3
            · skip
              refine go_iload_n X d_Model_people_71 rfl rfl ?_
              refine go_if_le (tgt := 79) X d_Model_people_72 rfl hx2 (fun hq6 => ?_) (fun hq6 => ?_)
              · skip
                refine go_iconst (v := 0) X d_Model_people_79 ?_
                refine go_top (v' := vi (if x5 = 123 then (1 : Int) else (if x5 = 125 then (if 0 < x2 then ((-1) : Int) else 0 : Int) else 0))) X (congrArg (fun q => vi q) (show 0 = if x5 = 123 then (1 : Int) else (if x5 = 125 then (if 0 < x2 then ((-1) : Int) else 0 : Int) else 0) from ((if_neg hq4).trans ((if_pos hq5).trans ((if_neg (Int.not_lt.mpr hq6))))).symm)) ?_
                exact hv3
              · skip
                refine go_iconst (v := (-1)) X d_Model_people_75 ?_
                refine go_goto (tgt := 80) X d_Model_people_76 rfl ?_
                refine go_top (v' := vi (if x5 = 123 then (1 : Int) else (if x5 = 125 then (if 0 < x2 then ((-1) : Int) else 0 : Int) else 0))) X (congrArg (fun q => vi q) (show (-1) = if x5 = 123 then (1 : Int) else (if x5 = 125 then (if 0 < x2 then ((-1) : Int) else 0 : Int) else 0) from ((if_neg hq4).trans ((if_pos hq5).trans ((if_pos hq6)))).symm)) ?_
                exact hv3
          · skip
            refine go_iconst (v := 1) X d_Model_people_60 ?_
            refine go_goto (tgt := 80) X d_Model_people_61 rfl ?_
            refine go_top (v' := vi (if x5 = 123 then (1 : Int) else (if x5 = 125 then (if 0 < x2 then ((-1) : Int) else 0 : Int) else 0))) X (congrArg (fun q => vi q) (show 1 = if x5 = 123 then (1 : Int) else (if x5 = 125 then (if 0 < x2 then ((-1) : Int) else 0 : Int) else 0) from ((if_pos hq4)).symm)) ?_
            exact hv3
        refine go_iadd X d_Model_people_80 ?_
        obtain ⟨hc7, hF8⟩ := chk_t hF2
        refine go_istore_n (lv' := [(2, vi (x2 + (if x5 = 123 then (1 : Int) else (if x5 = 125 then (if 0 < x2 then ((-1) : Int) else 0 : Int) else 0)))), (1, vi (y1 + y0)), (0, vr r), (3, vi x3), (4, vi x4), (5, vi x5)]) X d_Model_people_81 rfl (by decide) rfl ?_
        refine go_iload_n X d_Model_people_82 rfl rfl ?_
        suffices hv9 : Go g 0 0 sh M1 sz 98 [(2, vi (x2 + (if x5 = 123 then (1 : Int) else (if x5 = 125 then (if 0 < x2 then ((-1) : Int) else 0 : Int) else 0)))), (1, vi (y1 + y0)), (0, vr r), (3, vi x3), (4, vi x4), (5, vi x5)] [vi (if x3 = 0 then (if x5 = 32 then (0 : Int) else 1 : Int) else 1)] by
          refine go_if_ne (tgt := 93) X d_Model_people_83 rfl hx3 (fun hq10 => ?_) (fun hq10 => ?_)
          · skip
            refine go_iconst (v := 1) X d_Model_people_93 ?_
            refine go_goto (tgt := 98) X d_Model_people_94 rfl ?_
            refine go_top (v' := vi (if x3 = 0 then (if x5 = 32 then (0 : Int) else 1 : Int) else 1)) X (congrArg (fun q => vi q) (show 1 = if x3 = 0 then (if x5 = 32 then (0 : Int) else 1 : Int) else 1 from ((if_neg hq10)).symm)) ?_
            exact hv9
          · skip
            refine go_iload X d_Model_people_86 rfl ?_
            refine go_bipush (v := 32) X d_Model_people_88 (by decide) ?_
            refine go_icmp_eq (tgt := 97) X d_Model_people_90 rfl hx5 (by decide) (fun hq11 => ?_) (fun hq11 => ?_)
            · skip
              refine go_iconst (v := 0) X d_Model_people_97 ?_
              refine go_top (v' := vi (if x3 = 0 then (if x5 = 32 then (0 : Int) else 1 : Int) else 1)) X (congrArg (fun q => vi q) (show 0 = if x3 = 0 then (if x5 = 32 then (0 : Int) else 1 : Int) else 1 from ((if_pos hq10).trans ((if_pos hq11))).symm)) ?_
              exact hv9
            · skip
              refine go_iconst (v := 1) X d_Model_people_93 ?_
              refine go_goto (tgt := 98) X d_Model_people_94 rfl ?_
              refine go_top (v' := vi (if x3 = 0 then (if x5 = 32 then (0 : Int) else 1 : Int) else 1)) X (congrArg (fun q => vi q) (show 1 = if x3 = 0 then (if x5 = 32 then (0 : Int) else 1 : Int) else 1 from ((if_pos hq10).trans ((if_neg hq11))).symm)) ?_
              exact hv9
        refine go_istore_n (lv' := [(3, vi (if x3 = 0 then (if x5 = 32 then (0 : Int) else 1 : Int) else 1)), (2, vi (x2 + (if x5 = 123 then (1 : Int) else (if x5 = 125 then (if 0 < x2 then ((-1) : Int) else 0 : Int) else 0)))), (1, vi (y1 + y0)), (0, vr r), (4, vi x4), (5, vi x5)]) X d_Model_people_98 rfl (by decide) rfl ?_
        obtain ⟨hc12, hF13⟩ := chk_t hF8
        refine go_iinc (v := 1) (x := x4) (lv' := [(4, vi (x4 + 1)), (3, vi (if x3 = 0 then (if x5 = 32 then (0 : Int) else 1 : Int) else 1)), (2, vi (x2 + (if x5 = 123 then (1 : Int) else (if x5 = 125 then (if 0 < x2 then ((-1) : Int) else 0 : Int) else 0)))), (1, vi (y1 + y0)), (0, vr r), (5, vi x5)]) X d_Model_people_99 rfl (by decide) rfl ?_
        refine go_goto (tgt := 9) X d_Model_people_102 rfl ?_
        refine go_lv (lv' := [(0, vr r), (1, vi (y1 + y0)), (2, vi (x2 + (if x5 = 123 then (1 : Int) else (if x5 = 125 then (if 0 < x2 then ((-1) : Int) else 0 : Int) else 0)))), (3, vi (if x3 = 0 then (if x5 = 32 then (0 : Int) else 1 : Int) else 1)), (4, vi (x4 + 1))]) X [4, 3, 2, 1, 0] rfl ?_
        exact ih9 (y1 + y0) (x2 + (if x5 = 123 then (1 : Int) else (if x5 = 125 then (if 0 < x2 then ((-1) : Int) else 0 : Int) else 0))) (if x3 = 0 then (if x5 = 32 then (0 : Int) else 1 : Int) else 1) (x4 + 1) S1 M1 hc1 hc7 (rI_ite (rI_ite (by decide) (by decide)) (by decide)) hc12 hm hF13
      have hJ49 : ∀ (x2 x3 x4 x5 y0 : Int) (S1 M1 : s_M), rI x2 → rI x3 → rI x4 → rI x5 → rI y0 → mq sh M0 M1 r S1 → A_people_j49 N (A_people_l9 N n9) x2 x3 x4 x5 y0 S1 = some (v0, S0) → Go g 0 0 sh M1 sz 49 [(0, vr r), (2, vi x2), (3, vi x3), (4, vi x4), (5, vi x5)] [vi y0] := by
        intro x2 x3 x4 x5 y0 S1 M1 hx2 hx3 hx4 hx5 hy0 hm hF
        rw [A_people_j49_e] at hF
        refine go_iconst (v := 0) X d_Model_people_49 ?_
        refine go_lv (lv' := [(0, vr r), (2, vi x2), (3, vi x3), (4, vi x4), (5, vi x5)]) X [0, 1, 2, 3, 4] rfl ?_
        exact hJ50 x2 x3 x4 x5 0 y0 S1 M1 hx2 hx3 hx4 hx5 (by decide) hy0 hm hF
      intro x1 x2 x3 x4 S1 M1 hx1 hx2 hx3 hx4 hm hF
      rw [A_people_l9_e] at hF
      refine go_iload X d_Model_people_9 rfl ?_
      refine go_aload_n X d_Model_people_11 rfl rfl ?_
      refine go_get (v := vr (r + 3)) X f_Model_16 hm.1.1 rfl d_Model_people_12 (s_varr (hm.1.2.2 2 _ rfl).2 (by omega)) ?_
      refine go_bipush (v := 82) X d_Model_people_15 (by decide) ?_
      refine go_iald X (hm.1.2.2 2 _ rfl).1 (by decide) (by decide) d_Model_people_17 ?_
      refine go_top (v' := vi (S1 3 82)) X (congrArg (fun q => vi q) ((hm.a (by decide) 82).trans (rfl))) ?_
      refine go_icmp_ge (tgt := 105) X d_Model_people_18 rfl hx4 (hm.gA (by decide) 82) (fun hq14 => ?_) (fun hq14 => ?_)
      · skip
        have hF15 := if_f hF (Int.not_lt.mpr hq14)
        refine go_iload_n X d_Model_people_105 rfl rfl ?_
        suffices hv16 : Go g 0 0 sh M1 sz 114 [(0, vr r), (1, vi x1), (2, vi x2), (3, vi x3), (4, vi x4)] [vi (if x3 = 0 then (0 : Int) else x1)] by
          refine go_if_eq (tgt := 113) X d_Model_people_106 rfl hx3 (fun hq17 => ?_) (fun hq17 => ?_)
          · skip
            refine go_iconst (v := 0) X d_Model_people_113 ?_
            refine go_top (v' := vi (if x3 = 0 then (0 : Int) else x1)) X (congrArg (fun q => vi q) (show 0 = if x3 = 0 then (0 : Int) else x1 from ((if_pos hq17)).symm)) ?_
            exact hv16
          · skip
            refine go_iload_n X d_Model_people_109 rfl rfl ?_
            refine go_goto (tgt := 114) X d_Model_people_110 rfl ?_
            refine go_top (v' := vi (if x3 = 0 then (0 : Int) else x1)) X (congrArg (fun q => vi q) (show x1 = if x3 = 0 then (0 : Int) else x1 from ((if_neg hq17)).symm)) ?_
            exact hv16
        exact go_iret X d_Model_people_114 rfl rfl (by decide) (by decide) (ret_i hF15 (rI_ite (by decide) hx1) hm)
      · skip
        have hF18 := if_t hF hq14
        refine go_aload_n X d_Model_people_21 rfl rfl ?_
        refine go_bipush (v := 82) X d_Model_people_22 (by decide) ?_
        refine go_iload X d_Model_people_24 rfl ?_
        obtain ⟨v19, S20, hG21, hF22⟩ := bnd_t hF18
        refine go_cV (st2 := []) (r := []) X k_Model_99 (a_at l D hm (by decide) hx4 hG21) hm.1.1 rfl rfl (by decide) (Nat.le_of_ble_eq_true rfl) d_Model_people_26 (by decide) (by decide) (fun v' sh' M23 sz' hpp => ?_)
        obtain ⟨e1, e2, e3, hv25, md24⟩ := hpp
        subst e1
        rw [e2, e3]
        clear e2 e3
        show Go g 0 0 sh M23 sz 29 [(0, vr r), (1, vi x1), (2, vi x2), (3, vi x3), (4, vi x4)] [vi v19]
        refine go_istore (lv' := [(5, vi v19), (0, vr r), (1, vi x1), (2, vi x2), (3, vi x3), (4, vi x4)]) X d_Model_people_29 (by decide) rfl ?_
        refine go_iload_n X d_Model_people_31 rfl rfl ?_
        refine go_iload_n X d_Model_people_32 rfl rfl ?_
        refine go_if_ne (tgt := 49) X d_Model_people_33 rfl hx2 (fun hq26 => ?_) (fun hq26 => ?_)
        · skip
          have hF27 := if_f hF22 hq26
          refine go_lv (lv' := [(0, vr r), (2, vi x2), (3, vi x3), (4, vi x4), (5, vi v19)]) X [1, 3, 4, 5, 0] rfl ?_
          exact hJ49 x2 x3 x4 v19 x1 S20 M23 hx2 hx3 hx4 hv25 hx1 md24 hF27
        · skip
          have hF28 := if_t hF22 hq26
          refine go_aload_n X d_Model_people_36 rfl rfl ?_
          refine go_iload X d_Model_people_37 rfl ?_
          obtain ⟨v29, S30, hG31, hF32⟩ := bnd_t hF28
          refine go_cV (st2 := []) (r := [vi x1]) X k_Model_345 (a_isAnd l D md24 hx4 hG31) md24.1.1 rfl rfl (by decide) (Nat.le_of_ble_eq_true rfl) d_Model_people_39 (by decide) (by decide) (fun v' sh' M33 sz' hpp => ?_)
          obtain ⟨e1, e2, e3, hv35, md34⟩ := hpp
          subst e1
          rw [e2, e3]
          clear e2 e3
          show Go g 0 0 sh M33 sz 42 [(5, vi v19), (0, vr r), (1, vi x1), (2, vi x2), (3, vi x3), (4, vi x4)] [vi v29, vi x1]
          refine go_if_eq (tgt := 49) X d_Model_people_42 rfl hv35 (fun hq36 => ?_) (fun hq36 => ?_)
          · skip
            have hF37 := if_t hF32 hq36
            refine go_lv (lv' := [(0, vr r), (2, vi x2), (3, vi x3), (4, vi x4), (5, vi v19)]) X [1, 3, 4, 5, 0] rfl ?_
            exact hJ49 x2 x3 x4 v19 x1 S30 M33 hx2 hx3 hx4 hv25 hx1 md34 hF37
          · skip
            have hF38 := if_f hF32 hq36
            refine go_iconst (v := 1) X d_Model_people_45 ?_
            refine go_goto (tgt := 50) X d_Model_people_46 rfl ?_
            refine go_lv (lv' := [(0, vr r), (2, vi x2), (3, vi x3), (4, vi x4), (5, vi v19)]) X [1, 3, 4, 5, 0] rfl ?_
            exact hJ50 x2 x3 x4 v19 1 x1 S30 M33 hx2 hx3 hx4 hv25 (by decide) hx1 md34 hF38
  rw [A_people_e] at hF
  refine go_iconst (v := 1) X d_Model_people_0 ?_
  refine go_istore_n (lv' := [(1, vi 1), (0, vr r)]) X d_Model_people_1 rfl (by decide) rfl ?_
  refine go_iconst (v := 0) X d_Model_people_2 ?_
  refine go_istore_n (lv' := [(2, vi 0), (1, vi 1), (0, vr r)]) X d_Model_people_3 rfl (by decide) rfl ?_
  refine go_iconst (v := 0) X d_Model_people_4 ?_
  refine go_istore_n (lv' := [(3, vi 0), (2, vi 0), (1, vi 1), (0, vr r)]) X d_Model_people_5 rfl (by decide) rfl ?_
  refine go_iconst (v := 0) X d_Model_people_6 ?_
  refine go_istore (lv' := [(4, vi 0), (3, vi 0), (2, vi 0), (1, vi 1), (0, vr r)]) X d_Model_people_7 (by decide) rfl ?_
  refine go_lv (lv' := [(0, vr r), (1, vi 1), (2, vi 0), (3, vi 0), (4, vi 0)]) X [4, 3, 2, 1, 0] rfl ?_
  exact hL9 N 1 0 0 0 S M (by decide) (by decide) (by decide) (by decide) h hF
def A_border_j128 (N : Nat) (y0 : Int) (S : s_M) : rO := some (y0, S)
theorem A_border_j128_e (N : Nat) (y0 : Int) (S : s_M) : A_border_j128 N y0 S = (some (y0, S)) := rfl
def A_border_j73 (N : Nat) (k11 : Int → Int → Int → Int → Int → Int → s_M → rO) (x1 x2 x3 x4 x5 x6 x7 : Int) (S : s_M) : rO := chk (rI (x4 + (if x7 = 123 then (1 : Int) else (if x7 = 125 then (if 0 < x4 then ((-1) : Int) else 0 : Int) else 0)))) <| chk (rI (x6 + 1)) <| k11 x1 x2 x3 (x4 + (if x7 = 123 then (1 : Int) else (if x7 = 125 then (if 0 < x4 then ((-1) : Int) else 0 : Int) else 0))) x5 (x6 + 1) S
theorem A_border_j73_e (N : Nat) (k11 : Int → Int → Int → Int → Int → Int → s_M → rO) (x1 x2 x3 x4 x5 x6 x7 : Int) (S : s_M) : A_border_j73 N k11 x1 x2 x3 x4 x5 x6 x7 S = (chk (rI (x4 + (if x7 = 123 then (1 : Int) else (if x7 = 125 then (if 0 < x4 then ((-1) : Int) else 0 : Int) else 0)))) <| chk (rI (x6 + 1)) <| k11 x1 x2 x3 (x4 + (if x7 = 123 then (1 : Int) else (if x7 = 125 then (if 0 < x4 then ((-1) : Int) else 0 : Int) else 0))) x5 (x6 + 1) S) := rfl
def A_border_j59 (N : Nat) (k11 : Int → Int → Int → Int → Int → Int → s_M → rO) (x1 x2 x3 x4 x5 x6 x7 : Int) (S : s_M) : rO := chk (rI (x3 + 1)) <| if (x3 + 1) = x1 then (chk (rI (x6 + 3)) <| A_border_j73 N k11 x1 x2 (x3 + 1) x4 (x6 + 3) x6 x7 S) else (A_border_j73 N k11 x1 x2 (x3 + 1) x4 x5 x6 x7 S)
theorem A_border_j59_e (N : Nat) (k11 : Int → Int → Int → Int → Int → Int → s_M → rO) (x1 x2 x3 x4 x5 x6 x7 : Int) (S : s_M) : A_border_j59 N k11 x1 x2 x3 x4 x5 x6 x7 S = (chk (rI (x3 + 1)) <| if (x3 + 1) = x1 then (chk (rI (x6 + 3)) <| A_border_j73 N k11 x1 x2 (x3 + 1) x4 (x6 + 3) x6 x7 S) else (A_border_j73 N k11 x1 x2 (x3 + 1) x4 x5 x6 x7 S)) := rfl
def A_border_l11 (N : Nat) : Nat → Int → Int → Int → Int → Int → Int → s_M → rO
  | 0, _, _, _, _, _, _, _ => none
  | n + 1, x1, x2, x3, x4, x5, x6, S => if x6 < (S 3 82) then (bnd (A_at N 82 x6 S) fun v22 S23 => if x4 = 0 then (bnd (A_isAnd N x6 S23) fun v32 S33 => if v32 = 0 then (A_border_j73 N (A_border_l11 N n) x1 x2 x3 x4 x5 x6 v22 S33) else (if x2 = 0 then (A_border_j59 N (A_border_l11 N n) x1 x2 x3 x4 x5 x6 v22 S33) else (if x3 = x1 then (some (x6, S33)) else (A_border_j59 N (A_border_l11 N n) x1 x2 x3 x4 x5 x6 v22 S33)))) else (A_border_j73 N (A_border_l11 N n) x1 x2 x3 x4 x5 x6 v22 S23)) else (if x2 = 0 then (A_border_j128 N x5 S) else (A_border_j128 N (S 3 82) S))
theorem A_border_l11_e (N : Nat) (n : Nat) (x1 x2 x3 x4 x5 x6 : Int) (S : s_M) : A_border_l11 N (n + 1) x1 x2 x3 x4 x5 x6 S = (if x6 < (S 3 82) then (bnd (A_at N 82 x6 S) fun v22 S23 => if x4 = 0 then (bnd (A_isAnd N x6 S23) fun v32 S33 => if v32 = 0 then (A_border_j73 N (A_border_l11 N n) x1 x2 x3 x4 x5 x6 v22 S33) else (if x2 = 0 then (A_border_j59 N (A_border_l11 N n) x1 x2 x3 x4 x5 x6 v22 S33) else (if x3 = x1 then (some (x6, S33)) else (A_border_j59 N (A_border_l11 N n) x1 x2 x3 x4 x5 x6 v22 S33)))) else (A_border_j73 N (A_border_l11 N n) x1 x2 x3 x4 x5 x6 v22 S23)) else (if x2 = 0 then (A_border_j128 N x5 S) else (A_border_j128 N (S 3 82) S))) := rfl
def A_border (N : Nat) (x1 x2 : Int) (S : s_M) : rO := A_border_l11 N N x1 x2 1 0 0 0 S
theorem A_border_e (N : Nat) (x1 x2 : Int) (S : s_M) : A_border N x1 x2 S = (A_border_l11 N N x1 x2 1 0 0 0 S) := rfl
set_option maxHeartbeats 4000000 in
set_option maxRecDepth 100000 in
theorem a_border (l : Launch) (D : va_G) {sh : s_S} {M0 M : s_M} {sz r x1 x2 : Int} {N : Nat} {S S0 : s_M} {v0 : Int} (h : mq sh M0 M r S) (hx1 : rI x1) (hx2 : rI x2) (hF : A_border N x1 x2 S = some (v0, S0)) : Sp l D y_Model_border prog_14_method_73_code 8 (some .int) 3 0 0 [vr r, vi x1, vi x2] sh M sz (fun v' sh' M' sz' => v' = some (vi v0) ∧ sh' = sh ∧ sz' = sz ∧ rI v0 ∧ mq sh M0 M' r S0) := by
  have hr0 := h.1.2.1
  refine Sp.ofGo (own := "CiteForgeModel") (nm := "border") (by decide) rfl rfl (Nat.le_of_ble_eq_true rfl) (lv := [(0, vr r), (1, vi x1), (2, vi x2)]) rfl ?_
  intro g X
  have hJ128 : ∀ (y0 : Int) (S1 M1 : s_M), rI y0 → mq sh M0 M1 r S1 → A_border_j128 N y0 S1 = some (v0, S0) → Go g 0 0 sh M1 sz 128 [(0, vr r)] [vi y0] := by
    intro y0 S1 M1 hy0 hm hF
    rw [A_border_j128_e] at hF
    exact go_iret X d_Model_border_128 rfl rfl (by decide) (by decide) (ret_i hF hy0 hm)
  have hL11 : ∀ (n11 : Nat) (x1 x2 x3 x4 x5 x6 : Int) (S1 M1 : s_M), rI x1 → rI x2 → rI x3 → rI x4 → rI x5 → rI x6 → mq sh M0 M1 r S1 → A_border_l11 N n11 x1 x2 x3 x4 x5 x6 S1 = some (v0, S0) → Go g 0 0 sh M1 sz 11 [(0, vr r), (1, vi x1), (2, vi x2), (3, vi x3), (4, vi x4), (5, vi x5), (6, vi x6)] [] := by
    intro n11
    induction n11 with
    | zero => intro x1 x2 x3 x4 x5 x6 S1 M1 hx1 hx2 hx3 hx4 hx5 hx6 hm hF; cases hF
    | succ n11 ih11 =>
      have hJ73 : ∀ (x1 x2 x3 x4 x5 x6 x7 : Int) (S1 M1 : s_M), rI x1 → rI x2 → rI x3 → rI x4 → rI x5 → rI x6 → rI x7 → mq sh M0 M1 r S1 → A_border_j73 N (A_border_l11 N n11) x1 x2 x3 x4 x5 x6 x7 S1 = some (v0, S0) → Go g 0 0 sh M1 sz 73 [(0, vr r), (1, vi x1), (2, vi x2), (3, vi x3), (4, vi x4), (5, vi x5), (6, vi x6), (7, vi x7)] [] := by
        intro x1 x2 x3 x4 x5 x6 x7 S1 M1 hx1 hx2 hx3 hx4 hx5 hx6 hx7 hm hF
        rw [A_border_j73_e] at hF
        refine go_iload X d_Model_border_73 rfl ?_
        refine go_iload X d_Model_border_75 rfl ?_
        refine go_bipush (v := 123) X d_Model_border_77 (by decide) ?_
        suffices hv1 : Go g 0 0 sh M1 sz 103 [(0, vr r), (1, vi x1), (2, vi x2), (3, vi x3), (4, vi x4), (5, vi x5), (6, vi x6), (7, vi x7)] [vi (if x7 = 123 then (1 : Int) else (if x7 = 125 then (if 0 < x4 then ((-1) : Int) else 0 : Int) else 0)), vi x4] by
          refine go_icmp_ne (tgt := 86) X d_Model_border_79 rfl hx7 (by decide) (fun hq2 => ?_) (fun hq2 => ?_)
          · skip
            refine go_iload X d_Model_border_86 rfl ?_
            refine go_bipush (v := 125) X d_Model_border_88 (by decide) ?_
            refine go_icmp_ne (tgt := 102) X d_Model_border_90 rfl hx7 (by decide) (fun hq3 => ?_) (fun hq3 => ?_)
            · skip
              refine go_iconst (v := 0) X d_Model_border_102 ?_
              refine go_top (v' := vi (if x7 = 123 then (1 : Int) else (if x7 = 125 then (if 0 < x4 then ((-1) : Int) else 0 : Int) else 0))) X (congrArg (fun q => vi q) (show 0 = if x7 = 123 then (1 : Int) else (if x7 = 125 then (if 0 < x4 then ((-1) : Int) else 0 : Int) else 0) from ((if_neg hq2).trans ((if_neg hq3))).symm)) ?_
              exact hv1
            · skip
              refine go_iload X d_Model_border_93 rfl ?_
              refine go_if_le (tgt := 102) X d_Model_border_95 rfl hx4 (fun hq4 => ?_) (fun hq4 => ?_)
              · skip
                refine go_iconst (v := 0) X d_Model_border_102 ?_
                refine go_top (v' := vi (if x7 = 123 then (1 : Int) else (if x7 = 125 then (if 0 < x4 then ((-1) : Int) else 0 : Int) else 0))) X (congrArg (fun q => vi q) (show 0 = if x7 = 123 then (1 : Int) else (if x7 = 125 then (if 0 < x4 then ((-1) : Int) else 0 : Int) else 0) from ((if_neg hq2).trans ((if_pos hq3).trans ((if_neg (Int.not_lt.mpr hq4))))).symm)) ?_
                exact hv1
              · skip
                refine go_iconst (v := (-1)) X d_Model_border_98 ?_
                refine go_goto (tgt := 103) X d_Model_border_99 rfl ?_
                refine go_top (v' := vi (if x7 = 123 then (1 : Int) else (if x7 = 125 then (if 0 < x4 then ((-1) : Int) else 0 : Int) else 0))) X (congrArg (fun q => vi q) (show (-1) = if x7 = 123 then (1 : Int) else (if x7 = 125 then (if 0 < x4 then ((-1) : Int) else 0 : Int) else 0) from ((if_neg hq2).trans ((if_pos hq3).trans ((if_pos hq4)))).symm)) ?_
                exact hv1
          · skip
            refine go_iconst (v := 1) X d_Model_border_82 ?_
            refine go_goto (tgt := 103) X d_Model_border_83 rfl ?_
            refine go_top (v' := vi (if x7 = 123 then (1 : Int) else (if x7 = 125 then (if 0 < x4 then ((-1) : Int) else 0 : Int) else 0))) X (congrArg (fun q => vi q) (show 1 = if x7 = 123 then (1 : Int) else (if x7 = 125 then (if 0 < x4 then ((-1) : Int) else 0 : Int) else 0) from ((if_pos hq2)).symm)) ?_
            exact hv1
        refine go_iadd X d_Model_border_103 ?_
        obtain ⟨hc5, hF6⟩ := chk_t hF
        refine go_istore (lv' := [(4, vi (x4 + (if x7 = 123 then (1 : Int) else (if x7 = 125 then (if 0 < x4 then ((-1) : Int) else 0 : Int) else 0)))), (0, vr r), (1, vi x1), (2, vi x2), (3, vi x3), (5, vi x5), (6, vi x6), (7, vi x7)]) X d_Model_border_104 (by decide) rfl ?_
        obtain ⟨hc7, hF8⟩ := chk_t hF6
        refine go_iinc (v := 1) (x := x6) (lv' := [(6, vi (x6 + 1)), (4, vi (x4 + (if x7 = 123 then (1 : Int) else (if x7 = 125 then (if 0 < x4 then ((-1) : Int) else 0 : Int) else 0)))), (0, vr r), (1, vi x1), (2, vi x2), (3, vi x3), (5, vi x5), (7, vi x7)]) X d_Model_border_106 rfl (by decide) rfl ?_
        refine go_goto (tgt := 11) X d_Model_border_109 rfl ?_
        refine go_lv (lv' := [(0, vr r), (1, vi x1), (2, vi x2), (3, vi x3), (4, vi (x4 + (if x7 = 123 then (1 : Int) else (if x7 = 125 then (if 0 < x4 then ((-1) : Int) else 0 : Int) else 0)))), (5, vi x5), (6, vi (x6 + 1))]) X [2, 3, 4, 5, 1, 6, 0] rfl ?_
        exact ih11 x1 x2 x3 (x4 + (if x7 = 123 then (1 : Int) else (if x7 = 125 then (if 0 < x4 then ((-1) : Int) else 0 : Int) else 0))) x5 (x6 + 1) S1 M1 hx1 hx2 hx3 hc5 hx5 hc7 hm hF8
      have hJ59 : ∀ (x1 x2 x3 x4 x5 x6 x7 : Int) (S1 M1 : s_M), rI x1 → rI x2 → rI x3 → rI x4 → rI x5 → rI x6 → rI x7 → mq sh M0 M1 r S1 → A_border_j59 N (A_border_l11 N n11) x1 x2 x3 x4 x5 x6 x7 S1 = some (v0, S0) → Go g 0 0 sh M1 sz 59 [(0, vr r), (1, vi x1), (2, vi x2), (3, vi x3), (4, vi x4), (5, vi x5), (6, vi x6), (7, vi x7)] [] := by
        intro x1 x2 x3 x4 x5 x6 x7 S1 M1 hx1 hx2 hx3 hx4 hx5 hx6 hx7 hm hF
        rw [A_border_j59_e] at hF
        obtain ⟨hc9, hF10⟩ := chk_t hF
        refine go_iinc (v := 1) (x := x3) (lv' := [(3, vi (x3 + 1)), (0, vr r), (1, vi x1), (2, vi x2), (4, vi x4), (5, vi x5), (6, vi x6), (7, vi x7)]) X d_Model_border_59 rfl (by decide) rfl ?_
        refine go_iload_n X d_Model_border_62 rfl rfl ?_
        refine go_iload_n X d_Model_border_63 rfl rfl ?_
        refine go_icmp_ne (tgt := 73) X d_Model_border_64 rfl hc9 hx1 (fun hq11 => ?_) (fun hq11 => ?_)
        · skip
          have hF12 := if_f hF10 hq11
          refine go_lv (lv' := [(0, vr r), (1, vi x1), (2, vi x2), (3, vi (x3 + 1)), (4, vi x4), (5, vi x5), (6, vi x6), (7, vi x7)]) X [1, 2, 3, 0, 4, 5, 6, 7] rfl ?_
          exact hJ73 x1 x2 (x3 + 1) x4 x5 x6 x7 S1 M1 hx1 hx2 hc9 hx4 hx5 hx6 hx7 hm hF12
        · skip
          have hF13 := if_t hF10 hq11
          refine go_iload X d_Model_border_67 rfl ?_
          refine go_iconst (v := 3) X d_Model_border_69 ?_
          refine go_iadd X d_Model_border_70 ?_
          obtain ⟨hc14, hF15⟩ := chk_t hF13
          refine go_istore (lv' := [(5, vi (x6 + 3)), (3, vi (x3 + 1)), (0, vr r), (1, vi x1), (2, vi x2), (4, vi x4), (6, vi x6), (7, vi x7)]) X d_Model_border_71 (by decide) rfl ?_
          refine go_lv (lv' := [(0, vr r), (1, vi x1), (2, vi x2), (3, vi (x3 + 1)), (4, vi x4), (5, vi (x6 + 3)), (6, vi x6), (7, vi x7)]) X [2, 3, 4, 1, 5, 0, 6, 7] rfl ?_
          exact hJ73 x1 x2 (x3 + 1) x4 (x6 + 3) x6 x7 S1 M1 hx1 hx2 hc9 hx4 hc14 hx6 hx7 hm hF15
      intro x1 x2 x3 x4 x5 x6 S1 M1 hx1 hx2 hx3 hx4 hx5 hx6 hm hF
      rw [A_border_l11_e] at hF
      refine go_iload X d_Model_border_11 rfl ?_
      refine go_aload_n X d_Model_border_13 rfl rfl ?_
      refine go_get (v := vr (r + 3)) X f_Model_16 hm.1.1 rfl d_Model_border_14 (s_varr (hm.1.2.2 2 _ rfl).2 (by omega)) ?_
      refine go_bipush (v := 82) X d_Model_border_17 (by decide) ?_
      refine go_iald X (hm.1.2.2 2 _ rfl).1 (by decide) (by decide) d_Model_border_19 ?_
      refine go_top (v' := vi (S1 3 82)) X (congrArg (fun q => vi q) ((hm.a (by decide) 82).trans (rfl))) ?_
      refine go_icmp_ge (tgt := 112) X d_Model_border_20 rfl hx6 (hm.gA (by decide) 82) (fun hq16 => ?_) (fun hq16 => ?_)
      · skip
        have hF17 := if_f hF (Int.not_lt.mpr hq16)
        refine go_iload_n X d_Model_border_112 rfl rfl ?_
        refine go_if_eq (tgt := 126) X d_Model_border_113 rfl hx2 (fun hq18 => ?_) (fun hq18 => ?_)
        · skip
          have hF19 := if_t hF17 hq18
          refine go_iload X d_Model_border_126 rfl ?_
          refine go_lv (lv' := [(0, vr r)]) X [0] rfl ?_
          exact hJ128 x5 S1 M1 hx5 hm hF19
        · skip
          have hF20 := if_f hF17 hq18
          refine go_aload_n X d_Model_border_116 rfl rfl ?_
          refine go_get (v := vr (r + 3)) X f_Model_16 hm.1.1 rfl d_Model_border_117 (s_varr (hm.1.2.2 2 _ rfl).2 (by omega)) ?_
          refine go_bipush (v := 82) X d_Model_border_120 (by decide) ?_
          refine go_iald X (hm.1.2.2 2 _ rfl).1 (by decide) (by decide) d_Model_border_122 ?_
          refine go_top (v' := vi (S1 3 82)) X (congrArg (fun q => vi q) ((hm.a (by decide) 82).trans (rfl))) ?_
          refine go_goto (tgt := 128) X d_Model_border_123 rfl ?_
          refine go_lv (lv' := [(0, vr r)]) X [0] rfl ?_
          exact hJ128 (S1 3 82) S1 M1 (hm.gA (by decide) 82) hm hF20
      · skip
        have hF21 := if_t hF hq16
        refine go_aload_n X d_Model_border_23 rfl rfl ?_
        refine go_bipush (v := 82) X d_Model_border_24 (by decide) ?_
        refine go_iload X d_Model_border_26 rfl ?_
        obtain ⟨v22, S23, hG24, hF25⟩ := bnd_t hF21
        refine go_cV (st2 := []) (r := []) X k_Model_99 (a_at l D hm (by decide) hx6 hG24) hm.1.1 rfl rfl (by decide) (Nat.le_of_ble_eq_true rfl) d_Model_border_28 (by decide) (by decide) (fun v' sh' M26 sz' hpp => ?_)
        obtain ⟨e1, e2, e3, hv28, md27⟩ := hpp
        subst e1
        rw [e2, e3]
        clear e2 e3
        show Go g 0 0 sh M26 sz 31 [(0, vr r), (1, vi x1), (2, vi x2), (3, vi x3), (4, vi x4), (5, vi x5), (6, vi x6)] [vi v22]
        refine go_istore (lv' := [(7, vi v22), (0, vr r), (1, vi x1), (2, vi x2), (3, vi x3), (4, vi x4), (5, vi x5), (6, vi x6)]) X d_Model_border_31 (by decide) rfl ?_
        refine go_iload X d_Model_border_33 rfl ?_
        refine go_if_ne (tgt := 73) X d_Model_border_35 rfl hx4 (fun hq29 => ?_) (fun hq29 => ?_)
        · skip
          have hF30 := if_f hF25 hq29
          refine go_lv (lv' := [(0, vr r), (1, vi x1), (2, vi x2), (3, vi x3), (4, vi x4), (5, vi x5), (6, vi x6), (7, vi v22)]) X [1, 2, 3, 4, 5, 6, 7, 0] rfl ?_
          exact hJ73 x1 x2 x3 x4 x5 x6 v22 S23 M26 hx1 hx2 hx3 hx4 hx5 hx6 hv28 md27 hF30
        · skip
          have hF31 := if_t hF25 hq29
          refine go_aload_n X d_Model_border_38 rfl rfl ?_
          refine go_iload X d_Model_border_39 rfl ?_
          obtain ⟨v32, S33, hG34, hF35⟩ := bnd_t hF31
          refine go_cV (st2 := []) (r := []) X k_Model_345 (a_isAnd l D md27 hx6 hG34) md27.1.1 rfl rfl (by decide) (Nat.le_of_ble_eq_true rfl) d_Model_border_41 (by decide) (by decide) (fun v' sh' M36 sz' hpp => ?_)
          obtain ⟨e1, e2, e3, hv38, md37⟩ := hpp
          subst e1
          rw [e2, e3]
          clear e2 e3
          show Go g 0 0 sh M36 sz 44 [(7, vi v22), (0, vr r), (1, vi x1), (2, vi x2), (3, vi x3), (4, vi x4), (5, vi x5), (6, vi x6)] [vi v32]
          refine go_if_eq (tgt := 73) X d_Model_border_44 rfl hv38 (fun hq39 => ?_) (fun hq39 => ?_)
          · skip
            have hF40 := if_t hF35 hq39
            refine go_lv (lv' := [(0, vr r), (1, vi x1), (2, vi x2), (3, vi x3), (4, vi x4), (5, vi x5), (6, vi x6), (7, vi v22)]) X [1, 2, 3, 4, 5, 6, 7, 0] rfl ?_
            exact hJ73 x1 x2 x3 x4 x5 x6 v22 S33 M36 hx1 hx2 hx3 hx4 hx5 hx6 hv28 md37 hF40
          · skip
            have hF41 := if_f hF35 hq39
            refine go_iload_n X d_Model_border_47 rfl rfl ?_
            refine go_if_eq (tgt := 59) X d_Model_border_48 rfl hx2 (fun hq42 => ?_) (fun hq42 => ?_)
            · skip
              have hF43 := if_t hF41 hq42
              refine go_lv (lv' := [(0, vr r), (1, vi x1), (2, vi x2), (3, vi x3), (4, vi x4), (5, vi x5), (6, vi x6), (7, vi v22)]) X [1, 2, 3, 4, 5, 6, 7, 0] rfl ?_
              exact hJ59 x1 x2 x3 x4 x5 x6 v22 S33 M36 hx1 hx2 hx3 hx4 hx5 hx6 hv28 md37 hF43
            · skip
              have hF44 := if_f hF41 hq42
              refine go_iload_n X d_Model_border_51 rfl rfl ?_
              refine go_iload_n X d_Model_border_52 rfl rfl ?_
              refine go_icmp_ne (tgt := 59) X d_Model_border_53 rfl hx3 hx1 (fun hq45 => ?_) (fun hq45 => ?_)
              · skip
                have hF46 := if_f hF44 hq45
                refine go_lv (lv' := [(0, vr r), (1, vi x1), (2, vi x2), (3, vi x3), (4, vi x4), (5, vi x5), (6, vi x6), (7, vi v22)]) X [1, 2, 3, 4, 5, 6, 7, 0] rfl ?_
                exact hJ59 x1 x2 x3 x4 x5 x6 v22 S33 M36 hx1 hx2 hx3 hx4 hx5 hx6 hv28 md37 hF46
              · skip
                have hF47 := if_t hF44 hq45
                refine go_iload X d_Model_border_56 rfl ?_
                exact go_iret X d_Model_border_58 rfl rfl (by decide) (by decide) (ret_i hF47 hx6 md37)
  rw [A_border_e] at hF
  refine go_iconst (v := 1) X d_Model_border_0 ?_
  refine go_istore_n (lv' := [(3, vi 1), (0, vr r), (1, vi x1), (2, vi x2)]) X d_Model_border_1 rfl (by decide) rfl ?_
  refine go_iconst (v := 0) X d_Model_border_2 ?_
  refine go_istore (lv' := [(4, vi 0), (3, vi 1), (0, vr r), (1, vi x1), (2, vi x2)]) X d_Model_border_3 (by decide) rfl ?_
  refine go_iconst (v := 0) X d_Model_border_5 ?_
  refine go_istore (lv' := [(5, vi 0), (4, vi 0), (3, vi 1), (0, vr r), (1, vi x1), (2, vi x2)]) X d_Model_border_6 (by decide) rfl ?_
  refine go_iconst (v := 0) X d_Model_border_8 ?_
  refine go_istore (lv' := [(6, vi 0), (5, vi 0), (4, vi 0), (3, vi 1), (0, vr r), (1, vi x1), (2, vi x2)]) X d_Model_border_9 (by decide) rfl ?_
  refine go_lv (lv' := [(0, vr r), (1, vi x1), (2, vi x2), (3, vi 1), (4, vi 0), (5, vi 0), (6, vi 0)]) X [4, 5, 6, 3, 2, 1, 0] rfl ?_
  exact hL11 N x1 x2 1 0 0 0 S M hx1 hx2 (by decide) (by decide) (by decide) (by decide) h hF
def A_cut_j204 (N : Nat) (k18 : Int → Int → Int → Int → s_M → rO) (x2 x3 x4 x5 : Int) (S : s_M) : rO := chk (rI (x5 + 1)) <| k18 x2 x3 x4 (x5 + 1) S
theorem A_cut_j204_e (N : Nat) (k18 : Int → Int → Int → Int → s_M → rO) (x2 x3 x4 x5 : Int) (S : s_M) : A_cut_j204 N k18 x2 x3 x4 x5 S = (chk (rI (x5 + 1)) <| k18 x2 x3 x4 (x5 + 1) S) := rfl
def A_cut_j174 (N : Nat) (k18 : Int → Int → Int → Int → s_M → rO) (x2 x3 x4 x5 x6 x7 : Int) (S : s_M) : rO := if x7 = 0 then (A_cut_j204 N k18 x2 x3 x4 x5 S) else (if x6 = 44 then (if (S 0 38) < 3 then (chk (rI ((S 0 38) + 1)) <| A_cut_j204 N k18 x2 x3 x4 x5 (m_s S 0 38 ((S 0 38) + 1))) else (A_cut_j204 N k18 x2 x3 x4 x5 S)) else (A_cut_j204 N k18 x2 x3 x4 x5 S))
theorem A_cut_j174_e (N : Nat) (k18 : Int → Int → Int → Int → s_M → rO) (x2 x3 x4 x5 x6 x7 : Int) (S : s_M) : A_cut_j174 N k18 x2 x3 x4 x5 x6 x7 S = (if x7 = 0 then (A_cut_j204 N k18 x2 x3 x4 x5 S) else (if x6 = 44 then (if (S 0 38) < 3 then (chk (rI ((S 0 38) + 1)) <| A_cut_j204 N k18 x2 x3 x4 x5 (m_s S 0 38 ((S 0 38) + 1))) else (A_cut_j204 N k18 x2 x3 x4 x5 S)) else (A_cut_j204 N k18 x2 x3 x4 x5 S))) := rfl
def A_cut_j142 (N : Nat) (k18 : Int → Int → Int → Int → s_M → rO) (x2 x3 x5 x6 x7 : Int) (S : s_M) : rO := if (if x7 = 0 then (1 : Int) else 0) = 0 then (A_cut_j174 N k18 x2 x3 (if x7 = 0 then (1 : Int) else 0) x5 x6 x7 S) else (chk (rI ((S 0 37) - 1)) <| chk (rI (x5 + 1)) <| chk (0 ≤ ((S 0 37) - 1) ∧ ((S 0 37) - 1) < 40) <| A_cut_j174 N k18 x2 x3 (if x7 = 0 then (1 : Int) else 0) x5 x6 x7 (m_s S 23 ((S 0 37) - 1) (x5 + 1)))
theorem A_cut_j142_e (N : Nat) (k18 : Int → Int → Int → Int → s_M → rO) (x2 x3 x5 x6 x7 : Int) (S : s_M) : A_cut_j142 N k18 x2 x3 x5 x6 x7 S = (if (if x7 = 0 then (1 : Int) else 0) = 0 then (A_cut_j174 N k18 x2 x3 (if x7 = 0 then (1 : Int) else 0) x5 x6 x7 S) else (chk (rI ((S 0 37) - 1)) <| chk (rI (x5 + 1)) <| chk (0 ≤ ((S 0 37) - 1) ∧ ((S 0 37) - 1) < 40) <| A_cut_j174 N k18 x2 x3 (if x7 = 0 then (1 : Int) else 0) x5 x6 x7 (m_s S 23 ((S 0 37) - 1) (x5 + 1)))) := rfl
def A_cut_l18 (N : Nat) : Nat → Int → Int → Int → Int → s_M → rO
  | 0, _, _, _, _, _ => none
  | n + 1, x2, x3, x4, x5, S => if x5 < x2 then (bnd (A_at N 82 x5 S) fun v32 S33 => chk (rI (x3 + (if v32 = 123 then (1 : Int) else (if v32 = 125 then (if 0 < x3 then ((-1) : Int) else 0 : Int) else 0)))) <| if (if x3 = 0 then (if v32 = 32 then (1 : Int) else (if v32 = 126 then (1 : Int) else (if v32 = 44 then (1 : Int) else 0)) : Int) else 0) = 0 then (if x4 = 0 then (chk (0 ≤ (S33 0 37) ∧ (S33 0 37) < 40) <| chk (rI ((S33 0 38) - 1)) <| chk (0 ≤ (S33 0 37) ∧ (S33 0 37) < 40) <| chk (rI ((S33 0 37) + 1)) <| A_cut_j142 N (A_cut_l18 N n) x2 (x3 + (if v32 = 123 then (1 : Int) else (if v32 = 125 then (if 0 < x3 then ((-1) : Int) else 0 : Int) else 0))) x5 v32 (if x3 = 0 then (if v32 = 32 then (1 : Int) else (if v32 = 126 then (1 : Int) else (if v32 = 44 then (1 : Int) else 0)) : Int) else 0) (m_s (m_s (m_s S33 22 (S33 0 37) x5) 24 (S33 0 37) ((S33 0 38) - 1)) 0 37 ((S33 0 37) + 1))) else (A_cut_j142 N (A_cut_l18 N n) x2 (x3 + (if v32 = 123 then (1 : Int) else (if v32 = 125 then (if 0 < x3 then ((-1) : Int) else 0 : Int) else 0))) x5 v32 (if x3 = 0 then (if v32 = 32 then (1 : Int) else (if v32 = 126 then (1 : Int) else (if v32 = 44 then (1 : Int) else 0)) : Int) else 0) S33)) else (A_cut_j142 N (A_cut_l18 N n) x2 (x3 + (if v32 = 123 then (1 : Int) else (if v32 = 125 then (if 0 < x3 then ((-1) : Int) else 0 : Int) else 0))) x5 v32 (if x3 = 0 then (if v32 = 32 then (1 : Int) else (if v32 = 126 then (1 : Int) else (if v32 = 44 then (1 : Int) else 0)) : Int) else 0) S33)) else (some (0, S))
theorem A_cut_l18_e (N : Nat) (n : Nat) (x2 x3 x4 x5 : Int) (S : s_M) : A_cut_l18 N (n + 1) x2 x3 x4 x5 S = (if x5 < x2 then (bnd (A_at N 82 x5 S) fun v32 S33 => chk (rI (x3 + (if v32 = 123 then (1 : Int) else (if v32 = 125 then (if 0 < x3 then ((-1) : Int) else 0 : Int) else 0)))) <| if (if x3 = 0 then (if v32 = 32 then (1 : Int) else (if v32 = 126 then (1 : Int) else (if v32 = 44 then (1 : Int) else 0)) : Int) else 0) = 0 then (if x4 = 0 then (chk (0 ≤ (S33 0 37) ∧ (S33 0 37) < 40) <| chk (rI ((S33 0 38) - 1)) <| chk (0 ≤ (S33 0 37) ∧ (S33 0 37) < 40) <| chk (rI ((S33 0 37) + 1)) <| A_cut_j142 N (A_cut_l18 N n) x2 (x3 + (if v32 = 123 then (1 : Int) else (if v32 = 125 then (if 0 < x3 then ((-1) : Int) else 0 : Int) else 0))) x5 v32 (if x3 = 0 then (if v32 = 32 then (1 : Int) else (if v32 = 126 then (1 : Int) else (if v32 = 44 then (1 : Int) else 0)) : Int) else 0) (m_s (m_s (m_s S33 22 (S33 0 37) x5) 24 (S33 0 37) ((S33 0 38) - 1)) 0 37 ((S33 0 37) + 1))) else (A_cut_j142 N (A_cut_l18 N n) x2 (x3 + (if v32 = 123 then (1 : Int) else (if v32 = 125 then (if 0 < x3 then ((-1) : Int) else 0 : Int) else 0))) x5 v32 (if x3 = 0 then (if v32 = 32 then (1 : Int) else (if v32 = 126 then (1 : Int) else (if v32 = 44 then (1 : Int) else 0)) : Int) else 0) S33)) else (A_cut_j142 N (A_cut_l18 N n) x2 (x3 + (if v32 = 123 then (1 : Int) else (if v32 = 125 then (if 0 < x3 then ((-1) : Int) else 0 : Int) else 0))) x5 v32 (if x3 = 0 then (if v32 = 32 then (1 : Int) else (if v32 = 126 then (1 : Int) else (if v32 = 44 then (1 : Int) else 0)) : Int) else 0) S33)) else (some (0, S))) := rfl
def A_cut (N : Nat) (x1 x2 : Int) (S : s_M) : rO := A_cut_l18 N N x2 0 0 x1 (m_s (m_s S 0 37 0) 0 38 1)
theorem A_cut_e (N : Nat) (x1 x2 : Int) (S : s_M) : A_cut N x1 x2 S = (A_cut_l18 N N x2 0 0 x1 (m_s (m_s S 0 37 0) 0 38 1)) := rfl
set_option maxHeartbeats 4000000 in
set_option maxRecDepth 100000 in
theorem a_cut (l : Launch) (D : va_G) {sh : s_S} {M0 M : s_M} {sz r x1 x2 : Int} {N : Nat} {S S0 : s_M} {v0 : Int} (h : mq sh M0 M r S) (hx1 : rI x1) (hx2 : rI x2) (hF : A_cut N x1 x2 S = some (v0, S0)) : Sp l D y_Model_cut prog_14_method_74_code 8 none 2 0 0 [vr r, vi x1, vi x2] sh M sz (fun v' sh' M' sz' => v' = none ∧ sh' = sh ∧ sz' = sz ∧ mq sh M0 M' r S0) := by
  have hr0 := h.1.2.1
  refine Sp.ofGo (own := "CiteForgeModel") (nm := "cut") (by decide) rfl rfl (Nat.le_of_ble_eq_true rfl) (lv := [(0, vr r), (1, vi x1), (2, vi x2)]) rfl ?_
  intro g X
  have hL18 : ∀ (n18 : Nat) (x2 x3 x4 x5 : Int) (S1 M1 : s_M), rI x2 → rI x3 → rI x4 → rI x5 → mq sh M0 M1 r S1 → A_cut_l18 N n18 x2 x3 x4 x5 S1 = some (v0, S0) → Go g 0 0 sh M1 sz 18 [(0, vr r), (2, vi x2), (3, vi x3), (4, vi x4), (5, vi x5)] [] := by
    intro n18
    induction n18 with
    | zero => intro x2 x3 x4 x5 S1 M1 hx2 hx3 hx4 hx5 hm hF; cases hF
    | succ n18 ih18 =>
      have hJ204 : ∀ (x2 x3 x4 x5 : Int) (S1 M1 : s_M), rI x2 → rI x3 → rI x4 → rI x5 → mq sh M0 M1 r S1 → A_cut_j204 N (A_cut_l18 N n18) x2 x3 x4 x5 S1 = some (v0, S0) → Go g 0 0 sh M1 sz 204 [(0, vr r), (2, vi x2), (3, vi x3), (4, vi x4), (5, vi x5)] [] := by
        intro x2 x3 x4 x5 S1 M1 hx2 hx3 hx4 hx5 hm hF
        rw [A_cut_j204_e] at hF
        obtain ⟨hc1, hF2⟩ := chk_t hF
        refine go_iinc (v := 1) (x := x5) (lv' := [(5, vi (x5 + 1)), (0, vr r), (2, vi x2), (3, vi x3), (4, vi x4)]) X d_Model_cut_204 rfl (by decide) rfl ?_
        refine go_goto (tgt := 18) X d_Model_cut_207 rfl ?_
        refine go_lv (lv' := [(0, vr r), (2, vi x2), (3, vi x3), (4, vi x4), (5, vi (x5 + 1))]) X [1, 2, 3, 4, 0] rfl ?_
        exact ih18 x2 x3 x4 (x5 + 1) S1 M1 hx2 hx3 hx4 hc1 hm hF2
      have hJ174 : ∀ (x2 x3 x4 x5 x6 x7 : Int) (S1 M1 : s_M), rI x2 → rI x3 → rI x4 → rI x5 → rI x6 → rI x7 → mq sh M0 M1 r S1 → A_cut_j174 N (A_cut_l18 N n18) x2 x3 x4 x5 x6 x7 S1 = some (v0, S0) → Go g 0 0 sh M1 sz 174 [(0, vr r), (2, vi x2), (3, vi x3), (4, vi x4), (5, vi x5), (6, vi x6), (7, vi x7)] [] := by
        intro x2 x3 x4 x5 x6 x7 S1 M1 hx2 hx3 hx4 hx5 hx6 hx7 hm hF
        rw [A_cut_j174_e] at hF
        refine go_iload X d_Model_cut_174 rfl ?_
        refine go_if_eq (tgt := 204) X d_Model_cut_176 rfl hx7 (fun hq3 => ?_) (fun hq3 => ?_)
        · skip
          have hF4 := if_t hF hq3
          refine go_lv (lv' := [(0, vr r), (2, vi x2), (3, vi x3), (4, vi x4), (5, vi x5)]) X [0, 1, 2, 3, 4] rfl ?_
          exact hJ204 x2 x3 x4 x5 S1 M1 hx2 hx3 hx4 hx5 hm hF4
        · skip
          have hF5 := if_f hF hq3
          refine go_iload X d_Model_cut_179 rfl ?_
          refine go_bipush (v := 44) X d_Model_cut_181 (by decide) ?_
          refine go_icmp_ne (tgt := 204) X d_Model_cut_183 rfl hx6 (by decide) (fun hq6 => ?_) (fun hq6 => ?_)
          · skip
            have hF7 := if_f hF5 hq6
            refine go_lv (lv' := [(0, vr r), (2, vi x2), (3, vi x3), (4, vi x4), (5, vi x5)]) X [0, 1, 2, 3, 4] rfl ?_
            exact hJ204 x2 x3 x4 x5 S1 M1 hx2 hx3 hx4 hx5 hm hF7
          · skip
            have hF8 := if_t hF5 hq6
            refine go_aload_n X d_Model_cut_186 rfl rfl ?_
            refine go_get (v := vi (S1 0 38)) X f_Model_351 hm.1.1 rfl d_Model_cut_187 (congrArg (s_v .int) ((hm.s 38).trans (rfl))) ?_
            refine go_iconst (v := 3) X d_Model_cut_190 ?_
            refine go_icmp_ge (tgt := 204) X d_Model_cut_191 rfl (hm.gS 38 (by decide) (by decide)) (by decide) (fun hq9 => ?_) (fun hq9 => ?_)
            · skip
              have hF10 := if_f hF8 (Int.not_lt.mpr hq9)
              refine go_lv (lv' := [(0, vr r), (2, vi x2), (3, vi x3), (4, vi x4), (5, vi x5)]) X [0, 1, 2, 3, 4] rfl ?_
              exact hJ204 x2 x3 x4 x5 S1 M1 hx2 hx3 hx4 hx5 hm hF10
            · skip
              have hF11 := if_t hF8 hq9
              refine go_aload_n X d_Model_cut_194 rfl rfl ?_
              refine go_dup X d_Model_cut_195 rfl ?_
              refine go_get (v := vi (S1 0 38)) X f_Model_351 hm.1.1 rfl d_Model_cut_196 (congrArg (s_v .int) ((hm.s 38).trans (rfl))) ?_
              refine go_iconst (v := 1) X d_Model_cut_199 ?_
              refine go_iadd X d_Model_cut_200 ?_
              obtain ⟨hc12, hF13⟩ := chk_t hF11
              refine go_put (x := ((S1 0 38) + 1)) (v := vi ((S1 0 38) + 1)) X f_Model_351 hm.1.1 rfl d_Model_cut_201 rfl rfl rfl ?_
              have md14 : mq sh M0 (m_s M1 r 38 ((S1 0 38) + 1)) r (m_s S1 0 38 ((S1 0 38) + 1)) := hm.put0 (by decide) ((rg_S (by decide) (by decide) hc12))
              generalize m_s M1 r 38 ((S1 0 38) + 1) = M15 at md14 ⊢
              refine go_lv (lv' := [(0, vr r), (2, vi x2), (3, vi x3), (4, vi x4), (5, vi x5)]) X [0, 1, 2, 3, 4] rfl ?_
              exact hJ204 x2 x3 x4 x5 (m_s S1 0 38 ((S1 0 38) + 1)) M15 hx2 hx3 hx4 hx5 md14 hF13
      have hJ142 : ∀ (x2 x3 x5 x6 x7 : Int) (S1 M1 : s_M), rI x2 → rI x3 → rI x5 → rI x6 → rI x7 → mq sh M0 M1 r S1 → A_cut_j142 N (A_cut_l18 N n18) x2 x3 x5 x6 x7 S1 = some (v0, S0) → Go g 0 0 sh M1 sz 142 [(0, vr r), (2, vi x2), (3, vi x3), (5, vi x5), (6, vi x6), (7, vi x7)] [] := by
        intro x2 x3 x5 x6 x7 S1 M1 hx2 hx3 hx5 hx6 hx7 hm hF
        rw [A_cut_j142_e] at hF
        refine go_iload X d_Model_cut_142 rfl ?_
        suffices hv16 : Go g 0 0 sh M1 sz 152 [(0, vr r), (2, vi x2), (3, vi x3), (5, vi x5), (6, vi x6), (7, vi x7)] [vi (if x7 = 0 then (1 : Int) else 0)] by
          refine go_if_ne (tgt := 151) X d_Model_cut_144 rfl hx7 (fun hq17 => ?_) (fun hq17 => ?_)
          · skip
            refine go_iconst (v := 0) X d_Model_cut_151 ?_
            refine go_top (v' := vi (if x7 = 0 then (1 : Int) else 0)) X (congrArg (fun q => vi q) (show 0 = if x7 = 0 then (1 : Int) else 0 from ((if_neg hq17)).symm)) ?_
            exact hv16
          · skip
            refine go_iconst (v := 1) X d_Model_cut_147 ?_
            refine go_goto (tgt := 152) X d_Model_cut_148 rfl ?_
            refine go_top (v' := vi (if x7 = 0 then (1 : Int) else 0)) X (congrArg (fun q => vi q) (show 1 = if x7 = 0 then (1 : Int) else 0 from ((if_pos hq17)).symm)) ?_
            exact hv16
        refine go_istore (lv' := [(4, vi (if x7 = 0 then (1 : Int) else 0)), (0, vr r), (2, vi x2), (3, vi x3), (5, vi x5), (6, vi x6), (7, vi x7)]) X d_Model_cut_152 (by decide) rfl ?_
        refine go_iload X d_Model_cut_154 rfl ?_
        refine go_if_eq (tgt := 174) X d_Model_cut_156 rfl (rI_ite (by decide) (by decide)) (fun hq18 => ?_) (fun hq18 => ?_)
        · skip
          have hF19 := if_t hF hq18
          refine go_lv (lv' := [(0, vr r), (2, vi x2), (3, vi x3), (4, vi (if x7 = 0 then (1 : Int) else 0)), (5, vi x5), (6, vi x6), (7, vi x7)]) X [1, 2, 3, 0, 4, 5, 6] rfl ?_
          exact hJ174 x2 x3 (if x7 = 0 then (1 : Int) else 0) x5 x6 x7 S1 M1 hx2 hx3 (rI_ite (by decide) (by decide)) hx5 hx6 hx7 hm hF19
        · skip
          have hF20 := if_f hF hq18
          refine go_aload_n X d_Model_cut_159 rfl rfl ?_
          refine go_get (v := vr (r + 23)) X f_Model_77 hm.1.1 rfl d_Model_cut_160 (s_varr (hm.1.2.2 22 _ rfl).2 (by omega)) ?_
          refine go_aload_n X d_Model_cut_163 rfl rfl ?_
          refine go_get (v := vi (S1 0 37)) X f_Model_348 hm.1.1 rfl d_Model_cut_164 (congrArg (s_v .int) ((hm.s 37).trans (rfl))) ?_
          refine go_iconst (v := 1) X d_Model_cut_167 ?_
          refine go_isub X d_Model_cut_168 ?_
          obtain ⟨hc21, hF22⟩ := chk_t hF20
          refine go_iload X d_Model_cut_169 rfl ?_
          refine go_iconst (v := 1) X d_Model_cut_171 ?_
          refine go_iadd X d_Model_cut_172 ?_
          obtain ⟨hc23, hF24⟩ := chk_t hF22
          obtain ⟨hc25, hF26⟩ := chk_t hF24
          refine go_iast (x := (x5 + 1)) X (hm.1.2.2 22 _ rfl).1 (by decide) hc25 d_Model_cut_173 ?_
          have md27 : mq sh M0 (m_s M1 (r + 23) ((S1 0 37) - 1) (x5 + 1)) r (m_s S1 23 ((S1 0 37) - 1) (x5 + 1)) := hm.put (by decide) ((rg_A (by decide) hc23))
          generalize m_s M1 (r + 23) ((S1 0 37) - 1) (x5 + 1) = M28 at md27 ⊢
          refine go_lv (lv' := [(0, vr r), (2, vi x2), (3, vi x3), (4, vi (if x7 = 0 then (1 : Int) else 0)), (5, vi x5), (6, vi x6), (7, vi x7)]) X [1, 2, 3, 0, 4, 5, 6] rfl ?_
          exact hJ174 x2 x3 (if x7 = 0 then (1 : Int) else 0) x5 x6 x7 (m_s S1 23 ((S1 0 37) - 1) (x5 + 1)) M28 hx2 hx3 (rI_ite (by decide) (by decide)) hx5 hx6 hx7 md27 hF26
      intro x2 x3 x4 x5 S1 M1 hx2 hx3 hx4 hx5 hm hF
      rw [A_cut_l18_e] at hF
      refine go_iload X d_Model_cut_18 rfl ?_
      refine go_iload_n X d_Model_cut_20 rfl rfl ?_
      refine go_icmp_ge (tgt := 210) X d_Model_cut_21 rfl hx5 hx2 (fun hq29 => ?_) (fun hq29 => ?_)
      · skip
        have hF30 := if_f hF (Int.not_lt.mpr hq29)
        exact go_vret X d_Model_cut_210 rfl (by decide) (by decide) (ret_v hF30 hm)
      · skip
        have hF31 := if_t hF hq29
        refine go_aload_n X d_Model_cut_24 rfl rfl ?_
        refine go_bipush (v := 82) X d_Model_cut_25 (by decide) ?_
        refine go_iload X d_Model_cut_27 rfl ?_
        obtain ⟨v32, S33, hG34, hF35⟩ := bnd_t hF31
        refine go_cV (st2 := []) (r := []) X k_Model_99 (a_at l D hm (by decide) hx5 hG34) hm.1.1 rfl rfl (by decide) (Nat.le_of_ble_eq_true rfl) d_Model_cut_29 (by decide) (by decide) (fun v' sh' M36 sz' hpp => ?_)
        obtain ⟨e1, e2, e3, hv38, md37⟩ := hpp
        subst e1
        rw [e2, e3]
        clear e2 e3
        show Go g 0 0 sh M36 sz 32 [(0, vr r), (2, vi x2), (3, vi x3), (4, vi x4), (5, vi x5)] [vi v32]
        refine go_istore (lv' := [(6, vi v32), (0, vr r), (2, vi x2), (3, vi x3), (4, vi x4), (5, vi x5)]) X d_Model_cut_32 (by decide) rfl ?_
        refine go_iload_n X d_Model_cut_34 rfl rfl ?_
        suffices hv39 : Go g 0 0 sh M36 sz 64 [(6, vi v32), (0, vr r), (2, vi x2), (3, vi x3), (4, vi x4), (5, vi x5)] [vi (if x3 = 0 then (if v32 = 32 then (1 : Int) else (if v32 = 126 then (1 : Int) else (if v32 = 44 then (1 : Int) else 0)) : Int) else 0)] by
          refine go_if_ne (tgt := 63) X d_Model_cut_35 rfl hx3 (fun hq40 => ?_) (fun hq40 => ?_)
          · skip
            refine go_iconst (v := 0) X d_Model_cut_63 ?_
            refine go_top (v' := vi (if x3 = 0 then (if v32 = 32 then (1 : Int) else (if v32 = 126 then (1 : Int) else (if v32 = 44 then (1 : Int) else 0)) : Int) else 0)) X (congrArg (fun q => vi q) (show 0 = if x3 = 0 then (if v32 = 32 then (1 : Int) else (if v32 = 126 then (1 : Int) else (if v32 = 44 then (1 : Int) else 0)) : Int) else 0 from ((if_neg hq40)).symm)) ?_
            exact hv39
          · skip
            refine go_iload X d_Model_cut_38 rfl ?_
            refine go_bipush (v := 32) X d_Model_cut_40 (by decide) ?_
            refine go_icmp_eq (tgt := 59) X d_Model_cut_42 rfl hv38 (by decide) (fun hq41 => ?_) (fun hq41 => ?_)
            · skip
              refine go_iconst (v := 1) X d_Model_cut_59 ?_
              refine go_goto (tgt := 64) X d_Model_cut_60 rfl ?_
              refine go_top (v' := vi (if x3 = 0 then (if v32 = 32 then (1 : Int) else (if v32 = 126 then (1 : Int) else (if v32 = 44 then (1 : Int) else 0)) : Int) else 0)) X (congrArg (fun q => vi q) (show 1 = if x3 = 0 then (if v32 = 32 then (1 : Int) else (if v32 = 126 then (1 : Int) else (if v32 = 44 then (1 : Int) else 0)) : Int) else 0 from ((if_pos hq40).trans ((if_pos hq41))).symm)) ?_
              exact hv39
            · skip
              refine go_iload X d_Model_cut_45 rfl ?_
              refine go_bipush (v := 126) X d_Model_cut_47 (by decide) ?_
              refine go_icmp_eq (tgt := 59) X d_Model_cut_49 rfl hv38 (by decide) (fun hq42 => ?_) (fun hq42 => ?_)
              · skip
                refine go_iconst (v := 1) X d_Model_cut_59 ?_
                refine go_goto (tgt := 64) X d_Model_cut_60 rfl ?_
                refine go_top (v' := vi (if x3 = 0 then (if v32 = 32 then (1 : Int) else (if v32 = 126 then (1 : Int) else (if v32 = 44 then (1 : Int) else 0)) : Int) else 0)) X (congrArg (fun q => vi q) (show 1 = if x3 = 0 then (if v32 = 32 then (1 : Int) else (if v32 = 126 then (1 : Int) else (if v32 = 44 then (1 : Int) else 0)) : Int) else 0 from ((if_pos hq40).trans ((if_neg hq41).trans ((if_pos hq42)))).symm)) ?_
                exact hv39
              · skip
                refine go_iload X d_Model_cut_52 rfl ?_
                refine go_bipush (v := 44) X d_Model_cut_54 (by decide) ?_
                refine go_icmp_ne (tgt := 63) X d_Model_cut_56 rfl hv38 (by decide) (fun hq43 => ?_) (fun hq43 => ?_)
                · skip
                  refine go_iconst (v := 0) X d_Model_cut_63 ?_
                  refine go_top (v' := vi (if x3 = 0 then (if v32 = 32 then (1 : Int) else (if v32 = 126 then (1 : Int) else (if v32 = 44 then (1 : Int) else 0)) : Int) else 0)) X (congrArg (fun q => vi q) (show 0 = if x3 = 0 then (if v32 = 32 then (1 : Int) else (if v32 = 126 then (1 : Int) else (if v32 = 44 then (1 : Int) else 0)) : Int) else 0 from ((if_pos hq40).trans ((if_neg hq41).trans ((if_neg hq42).trans ((if_neg hq43))))).symm)) ?_
                  exact hv39
                · skip
                  refine go_iconst (v := 1) X d_Model_cut_59 ?_
                  refine go_goto (tgt := 64) X d_Model_cut_60 rfl ?_
                  refine go_top (v' := vi (if x3 = 0 then (if v32 = 32 then (1 : Int) else (if v32 = 126 then (1 : Int) else (if v32 = 44 then (1 : Int) else 0)) : Int) else 0)) X (congrArg (fun q => vi q) (show 1 = if x3 = 0 then (if v32 = 32 then (1 : Int) else (if v32 = 126 then (1 : Int) else (if v32 = 44 then (1 : Int) else 0)) : Int) else 0 from ((if_pos hq40).trans ((if_neg hq41).trans ((if_neg hq42).trans ((if_pos hq43))))).symm)) ?_
                  exact hv39
        refine go_istore (lv' := [(7, vi (if x3 = 0 then (if v32 = 32 then (1 : Int) else (if v32 = 126 then (1 : Int) else (if v32 = 44 then (1 : Int) else 0)) : Int) else 0)), (6, vi v32), (0, vr r), (2, vi x2), (3, vi x3), (4, vi x4), (5, vi x5)]) X d_Model_cut_64 (by decide) rfl ?_
        refine go_iload_n X d_Model_cut_66 rfl rfl ?_
        refine go_iload X d_Model_cut_67 rfl ?_
        refine go_bipush (v := 123) X d_Model_cut_69 (by decide) ?_
        suffices hv44 : Go g 0 0 sh M36 sz 94 [(7, vi (if x3 = 0 then (if v32 = 32 then (1 : Int) else (if v32 = 126 then (1 : Int) else (if v32 = 44 then (1 : Int) else 0)) : Int) else 0)), (6, vi v32), (0, vr r), (2, vi x2), (3, vi x3), (4, vi x4), (5, vi x5)] [vi (if v32 = 123 then (1 : Int) else (if v32 = 125 then (if 0 < x3 then ((-1) : Int) else 0 : Int) else 0)), vi x3] by
          refine go_icmp_ne (tgt := 78) X d_Model_cut_71 rfl hv38 (by decide) (fun hq45 => ?_) (fun hq45 => ?_)
          · skip
            refine go_iload X d_Model_cut_78 rfl ?_
            refine go_bipush (v := 125) X d_Model_cut_80 (by decide) ?_
            refine go_icmp_ne (tgt := 93) X d_Model_cut_82 rfl hv38 (by decide) (fun hq46 => ?_) (fun hq46 => ?_)
            · skip
              refine go_iconst (v := 0) X d_Model_cut_93 ?_
              refine go_top (v' := vi (if v32 = 123 then (1 : Int) else (if v32 = 125 then (if 0 < x3 then ((-1) : Int) else 0 : Int) else 0))) X (congrArg (fun q => vi q) (show 0 = if v32 = 123 then (1 : Int) else (if v32 = 125 then (if 0 < x3 then ((-1) : Int) else 0 : Int) else 0) from ((if_neg hq45).trans ((if_neg hq46))).symm)) ?_
              exact hv44
            · skip
              refine go_iload_n X d_Model_cut_85 rfl rfl ?_
              refine go_if_le (tgt := 93) X d_Model_cut_86 rfl hx3 (fun hq47 => ?_) (fun hq47 => ?_)
              · skip
                refine go_iconst (v := 0) X d_Model_cut_93 ?_
                refine go_top (v' := vi (if v32 = 123 then (1 : Int) else (if v32 = 125 then (if 0 < x3 then ((-1) : Int) else 0 : Int) else 0))) X (congrArg (fun q => vi q) (show 0 = if v32 = 123 then (1 : Int) else (if v32 = 125 then (if 0 < x3 then ((-1) : Int) else 0 : Int) else 0) from ((if_neg hq45).trans ((if_pos hq46).trans ((if_neg (Int.not_lt.mpr hq47))))).symm)) ?_
                exact hv44
              · skip
                refine go_iconst (v := (-1)) X d_Model_cut_89 ?_
                refine go_goto (tgt := 94) X d_Model_cut_90 rfl ?_
                refine go_top (v' := vi (if v32 = 123 then (1 : Int) else (if v32 = 125 then (if 0 < x3 then ((-1) : Int) else 0 : Int) else 0))) X (congrArg (fun q => vi q) (show (-1) = if v32 = 123 then (1 : Int) else (if v32 = 125 then (if 0 < x3 then ((-1) : Int) else 0 : Int) else 0) from ((if_neg hq45).trans ((if_pos hq46).trans ((if_pos hq47)))).symm)) ?_
                exact hv44
          · skip
            refine go_iconst (v := 1) X d_Model_cut_74 ?_
            refine go_goto (tgt := 94) X d_Model_cut_75 rfl ?_
            refine go_top (v' := vi (if v32 = 123 then (1 : Int) else (if v32 = 125 then (if 0 < x3 then ((-1) : Int) else 0 : Int) else 0))) X (congrArg (fun q => vi q) (show 1 = if v32 = 123 then (1 : Int) else (if v32 = 125 then (if 0 < x3 then ((-1) : Int) else 0 : Int) else 0) from ((if_pos hq45)).symm)) ?_
            exact hv44
        refine go_iadd X d_Model_cut_94 ?_
        obtain ⟨hc48, hF49⟩ := chk_t hF35
        refine go_istore_n (lv' := [(3, vi (x3 + (if v32 = 123 then (1 : Int) else (if v32 = 125 then (if 0 < x3 then ((-1) : Int) else 0 : Int) else 0)))), (7, vi (if x3 = 0 then (if v32 = 32 then (1 : Int) else (if v32 = 126 then (1 : Int) else (if v32 = 44 then (1 : Int) else 0)) : Int) else 0)), (6, vi v32), (0, vr r), (2, vi x2), (4, vi x4), (5, vi x5)]) X d_Model_cut_95 rfl (by decide) rfl ?_
        refine go_iload X d_Model_cut_96 rfl ?_
        refine go_if_ne (tgt := 142) X d_Model_cut_98 rfl (rI_ite (rI_ite (by decide) (rI_ite (by decide) (rI_ite (by decide) (by decide)))) (by decide)) (fun hq50 => ?_) (fun hq50 => ?_)
        · skip
          have hF51 := if_f hF49 hq50
          refine go_lv (lv' := [(0, vr r), (2, vi x2), (3, vi (x3 + (if v32 = 123 then (1 : Int) else (if v32 = 125 then (if 0 < x3 then ((-1) : Int) else 0 : Int) else 0)))), (5, vi x5), (6, vi v32), (7, vi (if x3 = 0 then (if v32 = 32 then (1 : Int) else (if v32 = 126 then (1 : Int) else (if v32 = 44 then (1 : Int) else 0)) : Int) else 0))]) X [3, 4, 0, 6, 2, 1] rfl ?_
          exact hJ142 x2 (x3 + (if v32 = 123 then (1 : Int) else (if v32 = 125 then (if 0 < x3 then ((-1) : Int) else 0 : Int) else 0))) x5 v32 (if x3 = 0 then (if v32 = 32 then (1 : Int) else (if v32 = 126 then (1 : Int) else (if v32 = 44 then (1 : Int) else 0)) : Int) else 0) S33 M36 hx2 hc48 hx5 hv38 (rI_ite (rI_ite (by decide) (rI_ite (by decide) (rI_ite (by decide) (by decide)))) (by decide)) md37 hF51
        · skip
          have hF52 := if_t hF49 hq50
          refine go_iload X d_Model_cut_101 rfl ?_
          refine go_if_ne (tgt := 142) X d_Model_cut_103 rfl hx4 (fun hq53 => ?_) (fun hq53 => ?_)
          · skip
            have hF54 := if_f hF52 hq53
            refine go_lv (lv' := [(0, vr r), (2, vi x2), (3, vi (x3 + (if v32 = 123 then (1 : Int) else (if v32 = 125 then (if 0 < x3 then ((-1) : Int) else 0 : Int) else 0)))), (5, vi x5), (6, vi v32), (7, vi (if x3 = 0 then (if v32 = 32 then (1 : Int) else (if v32 = 126 then (1 : Int) else (if v32 = 44 then (1 : Int) else 0)) : Int) else 0))]) X [3, 4, 0, 6, 2, 1] rfl ?_
            exact hJ142 x2 (x3 + (if v32 = 123 then (1 : Int) else (if v32 = 125 then (if 0 < x3 then ((-1) : Int) else 0 : Int) else 0))) x5 v32 (if x3 = 0 then (if v32 = 32 then (1 : Int) else (if v32 = 126 then (1 : Int) else (if v32 = 44 then (1 : Int) else 0)) : Int) else 0) S33 M36 hx2 hc48 hx5 hv38 (rI_ite (rI_ite (by decide) (rI_ite (by decide) (rI_ite (by decide) (by decide)))) (by decide)) md37 hF54
          · skip
            have hF55 := if_t hF52 hq53
            refine go_aload_n X d_Model_cut_106 rfl rfl ?_
            refine go_get (v := vr (r + 22)) X f_Model_74 md37.1.1 rfl d_Model_cut_107 (s_varr (md37.1.2.2 21 _ rfl).2 (by omega)) ?_
            refine go_aload_n X d_Model_cut_110 rfl rfl ?_
            refine go_get (v := vi (S33 0 37)) X f_Model_348 md37.1.1 rfl d_Model_cut_111 (congrArg (s_v .int) ((md37.s 37).trans (rfl))) ?_
            refine go_iload X d_Model_cut_114 rfl ?_
            obtain ⟨hc56, hF57⟩ := chk_t hF55
            refine go_iast (x := x5) X (md37.1.2.2 21 _ rfl).1 (by decide) hc56 d_Model_cut_116 ?_
            have md58 : mq sh M0 (m_s M36 (r + 22) (S33 0 37) x5) r (m_s S33 22 (S33 0 37) x5) := md37.put (by decide) ((rg_A (by decide) hx5))
            generalize m_s M36 (r + 22) (S33 0 37) x5 = M59 at md58 ⊢
            refine go_aload_n X d_Model_cut_117 rfl rfl ?_
            refine go_get (v := vr (r + 24)) X f_Model_80 md58.1.1 rfl d_Model_cut_118 (s_varr (md58.1.2.2 23 _ rfl).2 (by omega)) ?_
            refine go_aload_n X d_Model_cut_121 rfl rfl ?_
            refine go_get (v := vi (S33 0 37)) X f_Model_348 md58.1.1 rfl d_Model_cut_122 (congrArg (s_v .int) ((md58.s 37).trans ((m_sk (by decide)).trans (rfl)))) ?_
            refine go_aload_n X d_Model_cut_125 rfl rfl ?_
            refine go_get (v := vi (S33 0 38)) X f_Model_351 md58.1.1 rfl d_Model_cut_126 (congrArg (s_v .int) ((md58.s 38).trans ((m_sk (by decide)).trans (rfl)))) ?_
            refine go_iconst (v := 1) X d_Model_cut_129 ?_
            refine go_isub X d_Model_cut_130 ?_
            obtain ⟨hc60, hF61⟩ := chk_t hF57
            obtain ⟨hc62, hF63⟩ := chk_t hF61
            refine go_iast (x := ((S33 0 38) - 1)) X (md58.1.2.2 23 _ rfl).1 (by decide) hc62 d_Model_cut_131 ?_
            have md64 : mq sh M0 (m_s M59 (r + 24) (S33 0 37) ((S33 0 38) - 1)) r (m_s (m_s S33 22 (S33 0 37) x5) 24 (S33 0 37) ((S33 0 38) - 1)) := md58.put (by decide) ((rg_A (by decide) hc60))
            generalize m_s M59 (r + 24) (S33 0 37) ((S33 0 38) - 1) = M65 at md64 ⊢
            refine go_aload_n X d_Model_cut_132 rfl rfl ?_
            refine go_dup X d_Model_cut_133 rfl ?_
            refine go_get (v := vi (S33 0 37)) X f_Model_348 md64.1.1 rfl d_Model_cut_134 (congrArg (s_v .int) ((md64.s 37).trans ((m_sk (by decide)).trans ((m_sk (by decide)).trans (rfl))))) ?_
            refine go_iconst (v := 1) X d_Model_cut_137 ?_
            refine go_iadd X d_Model_cut_138 ?_
            obtain ⟨hc66, hF67⟩ := chk_t hF63
            refine go_put (x := ((S33 0 37) + 1)) (v := vi ((S33 0 37) + 1)) X f_Model_348 md64.1.1 rfl d_Model_cut_139 rfl rfl rfl ?_
            have md68 : mq sh M0 (m_s M65 r 37 ((S33 0 37) + 1)) r (m_s (m_s (m_s S33 22 (S33 0 37) x5) 24 (S33 0 37) ((S33 0 38) - 1)) 0 37 ((S33 0 37) + 1)) := md64.put0 (by decide) ((rg_S (by decide) (by decide) hc66))
            generalize m_s M65 r 37 ((S33 0 37) + 1) = M69 at md68 ⊢
            refine go_lv (lv' := [(0, vr r), (2, vi x2), (3, vi (x3 + (if v32 = 123 then (1 : Int) else (if v32 = 125 then (if 0 < x3 then ((-1) : Int) else 0 : Int) else 0)))), (5, vi x5), (6, vi v32), (7, vi (if x3 = 0 then (if v32 = 32 then (1 : Int) else (if v32 = 126 then (1 : Int) else (if v32 = 44 then (1 : Int) else 0)) : Int) else 0))]) X [3, 4, 0, 6, 2, 1] rfl ?_
            exact hJ142 x2 (x3 + (if v32 = 123 then (1 : Int) else (if v32 = 125 then (if 0 < x3 then ((-1) : Int) else 0 : Int) else 0))) x5 v32 (if x3 = 0 then (if v32 = 32 then (1 : Int) else (if v32 = 126 then (1 : Int) else (if v32 = 44 then (1 : Int) else 0)) : Int) else 0) (m_s (m_s (m_s S33 22 (S33 0 37) x5) 24 (S33 0 37) ((S33 0 38) - 1)) 0 37 ((S33 0 37) + 1)) M69 hx2 hc48 hx5 hv38 (rI_ite (rI_ite (by decide) (rI_ite (by decide) (rI_ite (by decide) (by decide)))) (by decide)) md68 hF67
  rw [A_cut_e] at hF
  refine go_aload_n X d_Model_cut_0 rfl rfl ?_
  refine go_iconst (v := 0) X d_Model_cut_1 ?_
  refine go_put (x := 0) (v := vi 0) X f_Model_348 h.1.1 rfl d_Model_cut_2 rfl rfl rfl ?_
  have md70 : mq sh M0 (m_s M r 37 0) r (m_s S 0 37 0) := h.put0 (by decide) ((rg_S (by decide) (by decide) (by decide)))
  generalize m_s M r 37 0 = M71 at md70 ⊢
  refine go_aload_n X d_Model_cut_5 rfl rfl ?_
  refine go_iconst (v := 1) X d_Model_cut_6 ?_
  refine go_put (x := 1) (v := vi 1) X f_Model_351 md70.1.1 rfl d_Model_cut_7 rfl rfl rfl ?_
  have md72 : mq sh M0 (m_s M71 r 38 1) r (m_s (m_s S 0 37 0) 0 38 1) := md70.put0 (by decide) ((rg_S (by decide) (by decide) (by decide)))
  generalize m_s M71 r 38 1 = M73 at md72 ⊢
  refine go_iconst (v := 0) X d_Model_cut_10 ?_
  refine go_istore_n (lv' := [(3, vi 0), (0, vr r), (1, vi x1), (2, vi x2)]) X d_Model_cut_11 rfl (by decide) rfl ?_
  refine go_iconst (v := 0) X d_Model_cut_12 ?_
  refine go_istore (lv' := [(4, vi 0), (3, vi 0), (0, vr r), (1, vi x1), (2, vi x2)]) X d_Model_cut_13 (by decide) rfl ?_
  refine go_iload_n X d_Model_cut_15 rfl rfl ?_
  refine go_istore (lv' := [(5, vi x1), (4, vi 0), (3, vi 0), (0, vr r), (1, vi x1), (2, vi x2)]) X d_Model_cut_16 (by decide) rfl ?_
  refine go_lv (lv' := [(0, vr r), (2, vi x2), (3, vi 0), (4, vi 0), (5, vi x1)]) X [3, 5, 2, 1, 0] rfl ?_
  exact hL18 N x2 0 0 x1 (m_s (m_s S 0 37 0) 0 38 1) M73 hx2 (by decide) (by decide) hx1 md72 hF
