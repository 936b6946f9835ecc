def A_readValue_j112 (N : Nat) (S : s_M) : rO := some (0, S)
theorem A_readValue_j112_e (N : Nat) (S : s_M) : A_readValue_j112 N S = (some (0, S)) := rfl
def A_readValue_j69 (N : Nat) (k29 : Int → s_M → rO) (y0 : Int) (S : s_M) : rO := chk (rI ((S 0 17) + (if y0 = 0 then (0 : Int) else 1))) <| k29 y0 (m_s S 0 17 ((S 0 17) + (if y0 = 0 then (0 : Int) else 1)))
theorem A_readValue_j69_e (N : Nat) (k29 : Int → s_M → rO) (y0 : Int) (S : s_M) : A_readValue_j69 N k29 y0 S = (chk (rI ((S 0 17) + (if y0 = 0 then (0 : Int) else 1))) <| k29 y0 (m_s S 0 17 ((S 0 17) + (if y0 = 0 then (0 : Int) else 1)))) := rfl
def A_readValue_j68 (N : Nat) (k29 : Int → s_M → rO) (S : s_M) : rO := A_readValue_j69 N k29 0 S
theorem A_readValue_j68_e (N : Nat) (k29 : Int → s_M → rO) (S : s_M) : A_readValue_j68 N k29 S = (A_readValue_j69 N k29 0 S) := rfl
def A_readValue_j48 (N : Nat) (k29 : Int → s_M → rO) (S : s_M) : rO := if (S 0 18) = 0 then (bnd (A_here N S) fun v10 S11 => if v10 = 35 then (A_readValue_j69 N k29 1 S11) else (A_readValue_j68 N k29  S11)) else (A_readValue_j68 N k29  S)
theorem A_readValue_j48_e (N : Nat) (k29 : Int → s_M → rO) (S : s_M) : A_readValue_j48 N k29 S = (if (S 0 18) = 0 then (bnd (A_here N S) fun v10 S11 => if v10 = 35 then (A_readValue_j69 N k29 1 S11) else (A_readValue_j68 N k29  S11)) else (A_readValue_j68 N k29  S)) := rfl
def A_readValue_l29 (N : Nat) : Nat → Int → s_M → rO
  | 0, _, _ => none
  | n + 1, x1, S => if x1 = 0 then (if (S 0 18) = 0 then (if 60 < (S 0 20) then (bnd (A_warn N 3 S) fun v28 S29 => A_readValue_j112 N  S29) else (A_readValue_j112 N  S)) else (A_readValue_j112 N  S)) else (bnd (A_piece N S) fun v36 S37 => if (S37 0 18) = 0 then (bnd (A_blanks N S37) fun v46 S47 => A_readValue_j48 N (A_readValue_l29 N n)  S47) else (A_readValue_j48 N (A_readValue_l29 N n)  S37))
theorem A_readValue_l29_e (N : Nat) (n : Nat) (x1 : Int) (S : s_M) : A_readValue_l29 N (n + 1) x1 S = (if x1 = 0 then (if (S 0 18) = 0 then (if 60 < (S 0 20) then (bnd (A_warn N 3 S) fun v28 S29 => A_readValue_j112 N  S29) else (A_readValue_j112 N  S)) else (A_readValue_j112 N  S)) else (bnd (A_piece N S) fun v36 S37 => if (S37 0 18) = 0 then (bnd (A_blanks N S37) fun v46 S47 => A_readValue_j48 N (A_readValue_l29 N n)  S47) else (A_readValue_j48 N (A_readValue_l29 N n)  S37))) := rfl
def A_readValue (N : Nat) (S : s_M) : rO := bnd (A_clearText N 82 S) fun v53 S54 => A_readValue_l29 N N (if (S54 0 18) = 0 then (1 : Int) else 0) (m_s (m_s S54 0 20 0) 0 19 0)
theorem A_readValue_e (N : Nat) (S : s_M) : A_readValue N S = (bnd (A_clearText N 82 S) fun v53 S54 => A_readValue_l29 N N (if (S54 0 18) = 0 then (1 : Int) else 0) (m_s (m_s S54 0 20 0) 0 19 0)) := rfl
set_option maxHeartbeats 4000000 in
set_option maxRecDepth 100000 in
theorem a_readValue (l : Launch) (D : va_G) {sh : s_S} {M0 M : s_M} {sz r  : Int} {N : Nat} {S S0 : s_M} {v0 : Int} (h : mq sh M0 M r S) (hF : A_readValue N S = some (v0, S0)) : Sp l D y_Model_readValue prog_14_method_30_code 2 none 6 0 0 [vr r] sh M sz (fun v' sh' M' sz' => v' = none ∧ sh' = sh ∧ sz' = sz ∧ mq sh M0 M' r S0) := by
  have hr0 := h.1.2.1
  refine Sp.ofGo (own := "CiteForgeModel") (nm := "readValue") (by decide) rfl rfl (Nat.le_of_ble_eq_true rfl) (lv := [(0, vr r)]) rfl ?_
  intro g X
  have hJ112 : ∀ (S1 M1 : s_M), mq sh M0 M1 r S1 → A_readValue_j112 N S1 = some (v0, S0) → Go g 0 0 sh M1 sz 112 [(0, vr r)] [] := by
    intro S1 M1 hm hF
    rw [A_readValue_j112_e] at hF
    exact go_vret X d_Model_readValue_112 rfl (by decide) (by decide) (ret_v hF hm)
  have hL29 : ∀ (n29 : Nat) (x1 : Int) (S1 M1 : s_M), rI x1 → mq sh M0 M1 r S1 → A_readValue_l29 N n29 x1 S1 = some (v0, S0) → Go g 0 0 sh M1 sz 29 [(0, vr r), (1, vi x1)] [] := by
    intro n29
    induction n29 with
    | zero => intro x1 S1 M1 hx1 hm hF; cases hF
    | succ n29 ih29 =>
      have hJ69 : ∀ (y0 : Int) (S1 M1 : s_M), rI y0 → mq sh M0 M1 r S1 → A_readValue_j69 N (A_readValue_l29 N n29) y0 S1 = some (v0, S0) → Go g 0 0 sh M1 sz 69 [(0, vr r)] [vi y0] := by
        intro y0 S1 M1 hy0 hm hF
        rw [A_readValue_j69_e] at hF
        refine go_istore_n (lv' := [(1, vi y0), (0, vr r)]) X d_Model_readValue_69 rfl (by decide) rfl ?_
        refine go_aload_n X d_Model_readValue_70 rfl rfl ?_
        refine go_dup X d_Model_readValue_71 rfl ?_
        refine go_get (v := vi (S1 0 17)) X f_Model_134 hm.1.1 rfl d_Model_readValue_72 (congrArg (s_v .int) ((hm.s 17).trans (rfl))) ?_
        refine go_iload_n X d_Model_readValue_75 rfl rfl ?_
        suffices hv1 : Go g 0 0 sh M1 sz 84 [(1, vi y0), (0, vr r)] [vi (if y0 = 0 then (0 : Int) else 1), vi (S1 0 17), vr r] by
          refine go_if_eq (tgt := 83) X d_Model_readValue_76 rfl hy0 (fun hq2 => ?_) (fun hq2 => ?_)
          · skip
            refine go_iconst (v := 0) X d_Model_readValue_83 ?_
            refine go_top (v' := vi (if y0 = 0 then (0 : Int) else 1)) X (congrArg (fun q => vi q) (show 0 = if y0 = 0 then (0 : Int) else 1 from ((if_pos hq2)).symm)) ?_
            exact hv1
          · skip
            refine go_iconst (v := 1) X d_Model_readValue_79 ?_
            refine go_goto (tgt := 84) X d_Model_readValue_80 rfl ?_
            refine go_top (v' := vi (if y0 = 0 then (0 : Int) else 1)) X (congrArg (fun q => vi q) (show 1 = if y0 = 0 then (0 : Int) else 1 from ((if_neg hq2)).symm)) ?_
            exact hv1
        refine go_iadd X d_Model_readValue_84 ?_
        obtain ⟨hc3, hF4⟩ := chk_t hF
        refine go_put (x := ((S1 0 17) + (if y0 = 0 then (0 : Int) else 1))) (v := vi ((S1 0 17) + (if y0 = 0 then (0 : Int) else 1))) X f_Model_134 hm.1.1 rfl d_Model_readValue_85 rfl rfl rfl ?_
        have md5 : mq sh M0 (m_s M1 r 17 ((S1 0 17) + (if y0 = 0 then (0 : Int) else 1))) r (m_s S1 0 17 ((S1 0 17) + (if y0 = 0 then (0 : Int) else 1))) := hm.put0 (by decide) ((rg_S (by decide) (by decide) hc3))
        generalize m_s M1 r 17 ((S1 0 17) + (if y0 = 0 then (0 : Int) else 1)) = M6 at md5 ⊢
        refine go_goto (tgt := 29) X d_Model_readValue_88 rfl ?_
        refine go_lv (lv' := [(0, vr r), (1, vi y0)]) X [1, 0] rfl ?_
        exact ih29 y0 (m_s S1 0 17 ((S1 0 17) + (if y0 = 0 then (0 : Int) else 1))) M6 hy0 md5 hF4
      have hJ68 : ∀ (S1 M1 : s_M), mq sh M0 M1 r S1 → A_readValue_j68 N (A_readValue_l29 N n29) S1 = some (v0, S0) → Go g 0 0 sh M1 sz 68 [(0, vr r)] [] := by
        intro S1 M1 hm hF
        rw [A_readValue_j68_e] at hF
        refine go_iconst (v := 0) X d_Model_readValue_68 ?_
        refine go_lv (lv' := [(0, vr r)]) X [0] rfl ?_
        exact hJ69 0 S1 M1 (by decide) hm hF
      have hJ48 : ∀ (S1 M1 : s_M), mq sh M0 M1 r S1 → A_readValue_j48 N (A_readValue_l29 N n29) S1 = some (v0, S0) → Go g 0 0 sh M1 sz 48 [(0, vr r)] [] := by
        intro S1 M1 hm hF
        rw [A_readValue_j48_e] at hF
        refine go_aload_n X d_Model_readValue_48 rfl rfl ?_
        refine go_get (v := vi (S1 0 18)) X f_Model_140 hm.1.1 rfl d_Model_readValue_49 (congrArg (s_v .boolean) ((hm.s 18).trans (rfl))) ?_
        refine go_if_ne (tgt := 68) X d_Model_readValue_52 rfl (rI_z (hm.gB 18 (by decide) (by decide))) (fun hq7 => ?_) (fun hq7 => ?_)
        · skip
          have hF8 := if_f hF hq7
          refine go_lv (lv' := [(0, vr r)]) X [0] rfl ?_
          exact hJ68  S1 M1  hm hF8
        · skip
          have hF9 := if_t hF hq7
          refine go_aload_n X d_Model_readValue_55 rfl rfl ?_
          obtain ⟨v10, S11, hG12, hF13⟩ := bnd_t hF9
          refine go_cV (st2 := []) (r := []) X k_Model_136 (a_here l D hm hG12) hm.1.1 rfl rfl (by decide) (Nat.le_of_ble_eq_true rfl) d_Model_readValue_56 (by decide) (by decide) (fun v' sh' M14 sz' hpp => ?_)
          obtain ⟨e1, e2, e3, hv16, md15⟩ := hpp
          subst e1
          rw [e2, e3]
          clear e2 e3
          show Go g 0 0 sh M14 sz 59 [(0, vr r)] [vi v10]
          refine go_bipush (v := 35) X d_Model_readValue_59 (by decide) ?_
          refine go_icmp_ne (tgt := 68) X d_Model_readValue_61 rfl hv16 (by decide) (fun hq17 => ?_) (fun hq17 => ?_)
          · skip
            have hF18 := if_f hF13 hq17
            refine go_lv (lv' := [(0, vr r)]) X [0] rfl ?_
            exact hJ68  S11 M14  md15 hF18
          · skip
            have hF19 := if_t hF13 hq17
            refine go_iconst (v := 1) X d_Model_readValue_64 ?_
            refine go_goto (tgt := 69) X d_Model_readValue_65 rfl ?_
            refine go_lv (lv' := [(0, vr r)]) X [0] rfl ?_
            exact hJ69 1 S11 M14 (by decide) md15 hF19
      intro x1 S1 M1 hx1 hm hF
      rw [A_readValue_l29_e] at hF
      refine go_iload_n X d_Model_readValue_29 rfl rfl ?_
      refine go_if_eq (tgt := 91) X d_Model_readValue_30 rfl hx1 (fun hq20 => ?_) (fun hq20 => ?_)
      · skip
        have hF21 := if_t hF hq20
        refine go_aload_n X d_Model_readValue_91 rfl rfl ?_
        refine go_get (v := vi (S1 0 18)) X f_Model_140 hm.1.1 rfl d_Model_readValue_92 (congrArg (s_v .boolean) ((hm.s 18).trans (rfl))) ?_
        refine go_if_ne (tgt := 112) X d_Model_readValue_95 rfl (rI_z (hm.gB 18 (by decide) (by decide))) (fun hq22 => ?_) (fun hq22 => ?_)
        · skip
          have hF23 := if_f hF21 hq22
          refine go_lv (lv' := [(0, vr r)]) X [0] rfl ?_
          exact hJ112  S1 M1  hm hF23
        · skip
          have hF24 := if_t hF21 hq22
          refine go_aload_n X d_Model_readValue_98 rfl rfl ?_
          refine go_get (v := vi (S1 0 20)) X f_Model_159 hm.1.1 rfl d_Model_readValue_99 (congrArg (s_v .int) ((hm.s 20).trans (rfl))) ?_
          refine go_bipush (v := 60) X d_Model_readValue_102 (by decide) ?_
          refine go_icmp_le (tgt := 112) X d_Model_readValue_104 rfl (hm.gS 20 (by decide) (by decide)) (by decide) (fun hq25 => ?_) (fun hq25 => ?_)
          · skip
            have hF26 := if_f hF24 (Int.not_lt.mpr hq25)
            refine go_lv (lv' := [(0, vr r)]) X [0] rfl ?_
            exact hJ112  S1 M1  hm hF26
          · skip
            have hF27 := if_t hF24 hq25
            refine go_aload_n X d_Model_readValue_107 rfl rfl ?_
            refine go_iconst (v := 3) X d_Model_readValue_108 ?_
            obtain ⟨v28, S29, hG30, hF31⟩ := bnd_t hF27
            refine go_cV (st2 := []) (r := []) X k_Model_144 (a_warn l D hm (by decide) hG30) hm.1.1 rfl rfl (by decide) (Nat.le_of_ble_eq_true rfl) d_Model_readValue_109 (by decide) (by decide) (fun v' sh' M32 sz' hpp => ?_)
            obtain ⟨e1, e2, e3, md33⟩ := hpp
            subst e1
            rw [e2, e3]
            clear e2 e3
            show Go g 0 0 sh M32 sz 112 [(0, vr r), (1, vi x1)] []
            refine go_lv (lv' := [(0, vr r)]) X [0] rfl ?_
            exact hJ112  S29 M32  md33 hF31
      · skip
        have hF35 := if_f hF hq20
        refine go_aload_n X d_Model_readValue_33 rfl rfl ?_
        obtain ⟨v36, S37, hG38, hF39⟩ := bnd_t hF35
        refine go_cV (st2 := []) (r := []) X k_Model_185 (a_piece l D hm hG38) hm.1.1 rfl rfl (by decide) (Nat.le_of_ble_eq_true rfl) d_Model_readValue_34 (by decide) (by decide) (fun v' sh' M40 sz' hpp => ?_)
        obtain ⟨e1, e2, e3, md41⟩ := hpp
        subst e1
        rw [e2, e3]
        clear e2 e3
        show Go g 0 0 sh M40 sz 37 [(0, vr r), (1, vi x1)] []
        refine go_aload_n X d_Model_readValue_37 rfl rfl ?_
        refine go_get (v := vi (S37 0 18)) X f_Model_140 md41.1.1 rfl d_Model_readValue_38 (congrArg (s_v .boolean) ((md41.s 18).trans (rfl))) ?_
        refine go_if_ne (tgt := 48) X d_Model_readValue_41 rfl (rI_z (md41.gB 18 (by decide) (by decide))) (fun hq43 => ?_) (fun hq43 => ?_)
        · skip
          have hF44 := if_f hF39 hq43
          refine go_lv (lv' := [(0, vr r)]) X [0] rfl ?_
          exact hJ48  S37 M40  md41 hF44
        · skip
          have hF45 := if_t hF39 hq43
          refine go_aload_n X d_Model_readValue_44 rfl rfl ?_
          obtain ⟨v46, S47, hG48, hF49⟩ := bnd_t hF45
          refine go_cV (st2 := []) (r := []) X k_Model_150 (a_blanks l D md41 hG48) md41.1.1 rfl rfl (by decide) (Nat.le_of_ble_eq_true rfl) d_Model_readValue_45 (by decide) (by decide) (fun v' sh' M50 sz' hpp => ?_)
          obtain ⟨e1, e2, e3, md51⟩ := hpp
          subst e1
          rw [e2, e3]
          clear e2 e3
          show Go g 0 0 sh M50 sz 48 [(0, vr r), (1, vi x1)] []
          refine go_lv (lv' := [(0, vr r)]) X [0] rfl ?_
          exact hJ48  S47 M50  md51 hF49
  rw [A_readValue_e] at hF
  refine go_aload_n X d_Model_readValue_0 rfl rfl ?_
  refine go_bipush (v := 82) X d_Model_readValue_1 (by decide) ?_
  obtain ⟨v53, S54, hG55, hF56⟩ := bnd_t hF
  refine go_cV (st2 := []) (r := []) X k_Model_120 (a_clearText l D h (by decide) hG55) h.1.1 rfl rfl (by decide) (Nat.le_of_ble_eq_true rfl) d_Model_readValue_3 (by decide) (by decide) (fun v' sh' M57 sz' hpp => ?_)
  obtain ⟨e1, e2, e3, md58⟩ := hpp
  subst e1
  rw [e2, e3]
  clear e2 e3
  show Go g 0 0 sh M57 sz 6 [(0, vr r)] []
  refine go_aload_n X d_Model_readValue_6 rfl rfl ?_
  refine go_iconst (v := 0) X d_Model_readValue_7 ?_
  refine go_put (x := 0) (v := vi 0) X f_Model_159 md58.1.1 rfl d_Model_readValue_8 rfl rfl rfl ?_
  have md60 : mq sh M0 (m_s M57 r 20 0) r (m_s S54 0 20 0) := md58.put0 (by decide) ((rg_S (by decide) (by decide) (by decide)))
  generalize m_s M57 r 20 0 = M61 at md60 ⊢
  refine go_aload_n X d_Model_readValue_11 rfl rfl ?_
  refine go_iconst (v := 0) X d_Model_readValue_12 ?_
  refine go_put (x := 0) (v := vi 0) X f_Model_162 md60.1.1 rfl d_Model_readValue_13 rfl (n_nz (by decide)) (n_fz (by decide)) ?_
  have md62 : mq sh M0 (m_s M61 r 19 0) r (m_s (m_s S54 0 20 0) 0 19 0) := md60.put0 (by decide) ((rg_B (by decide) (by decide) (by decide)))
  generalize m_s M61 r 19 0 = M63 at md62 ⊢
  refine go_aload_n X d_Model_readValue_16 rfl rfl ?_
  refine go_get (v := vi (S54 0 18)) X f_Model_140 md62.1.1 rfl d_Model_readValue_17 (congrArg (s_v .boolean) ((md62.s 18).trans ((m_sj (by decide)).trans ((m_sj (by decide)).trans (rfl))))) ?_
  suffices hv64 : Go g 0 0 sh M63 sz 28 [(0, vr r)] [vi (if (S54 0 18) = 0 then (1 : Int) else 0)] by
    refine go_if_ne (tgt := 27) X d_Model_readValue_20 rfl (rI_eq (rI_z (md62.gB 18 (by decide) (by decide))) ((m_sj (by decide)).trans ((m_sj (by decide)).trans (rfl)))) (fun hq65 => ?_) (fun hq65 => ?_)
    · skip
      refine go_iconst (v := 0) X d_Model_readValue_27 ?_
      refine go_top (v' := vi (if (S54 0 18) = 0 then (1 : Int) else 0)) X (congrArg (fun q => vi q) (show 0 = if (S54 0 18) = 0 then (1 : Int) else 0 from ((if_neg hq65)).symm)) ?_
      exact hv64
    · skip
      refine go_iconst (v := 1) X d_Model_readValue_23 ?_
      refine go_goto (tgt := 28) X d_Model_readValue_24 rfl ?_
      refine go_top (v' := vi (if (S54 0 18) = 0 then (1 : Int) else 0)) X (congrArg (fun q => vi q) (show 1 = if (S54 0 18) = 0 then (1 : Int) else 0 from ((if_pos hq65)).symm)) ?_
      exact hv64
  refine go_istore_n (lv' := [(1, vi (if (S54 0 18) = 0 then (1 : Int) else 0)), (0, vr r)]) X d_Model_readValue_28 rfl (by decide) rfl ?_
  refine go_lv (lv' := [(0, vr r), (1, vi (if (S54 0 18) = 0 then (1 : Int) else 0))]) X [1, 0] rfl ?_
  exact hL29 N (if (S54 0 18) = 0 then (1 : Int) else 0) (m_s (m_s S54 0 20 0) 0 19 0) M63 (rI_ite (by decide) (by decide)) md62 hF56
def A_readField_j44 (N : Nat) (S : s_M) : rO := some (0, S)
theorem A_readField_j44_e (N : Nat) (S : s_M) : A_readField_j44 N S = (some (0, S)) := rfl
def A_readField (N : Nat) (S : s_M) : rO := bnd (A_word N S) fun v1 S2 => bnd (A_expect N 61 S2) fun v8 S9 => bnd (A_readValue N S9) fun v15 S16 => if (S16 0 18) = 0 then (bnd (A_own N 8 v1 S16) fun v25 S26 => if v25 < 0 then (if (S26 7 8) = 6 then (A_readField_j44 N  S26) else (chk (rI (48 + (S26 7 8))) <| chk (0 ≤ (48 + (S26 7 8)) ∧ (48 + (S26 7 8)) < 54) <| chk (rI (48 + (S26 7 8))) <| bnd (A_copy N 82 (48 + (S26 7 8)) (m_s S26 8 (48 + (S26 7 8)) v1)) fun v45 S46 => chk (rI ((S46 7 8) + 1)) <| some (0, m_s S46 7 8 ((S46 7 8) + 1)))) else (A_readField_j44 N  S26)) else (A_readField_j44 N  S16)
theorem A_readField_e (N : Nat) (S : s_M) : A_readField N S = (bnd (A_word N S) fun v1 S2 => bnd (A_expect N 61 S2) fun v8 S9 => bnd (A_readValue N S9) fun v15 S16 => if (S16 0 18) = 0 then (bnd (A_own N 8 v1 S16) fun v25 S26 => if v25 < 0 then (if (S26 7 8) = 6 then (A_readField_j44 N  S26) else (chk (rI (48 + (S26 7 8))) <| chk (0 ≤ (48 + (S26 7 8)) ∧ (48 + (S26 7 8)) < 54) <| chk (rI (48 + (S26 7 8))) <| bnd (A_copy N 82 (48 + (S26 7 8)) (m_s S26 8 (48 + (S26 7 8)) v1)) fun v45 S46 => chk (rI ((S46 7 8) + 1)) <| some (0, m_s S46 7 8 ((S46 7 8) + 1)))) else (A_readField_j44 N  S26)) else (A_readField_j44 N  S16)) := rfl
set_option maxHeartbeats 4000000 in
set_option maxRecDepth 100000 in
theorem a_readField (l : Launch) (D : va_G) {sh : s_S} {M0 M : s_M} {sz r  : Int} {N : Nat} {S S0 : s_M} {v0 : Int} (h : mq sh M0 M r S) (hF : A_readField N S = some (v0, S0)) : Sp l D y_Model_readField prog_14_method_33_code 3 none 7 0 0 [vr r] sh M sz (fun v' sh' M' sz' => v' = none ∧ sh' = sh ∧ sz' = sz ∧ mq sh M0 M' r S0) := by
  have hr0 := h.1.2.1
  refine Sp.ofGo (own := "CiteForgeModel") (nm := "readField") (by decide) rfl rfl (Nat.le_of_ble_eq_true rfl) (lv := [(0, vr r)]) rfl ?_
  intro g X
  have hJ44 : ∀ (S1 M1 : s_M), mq sh M0 M1 r S1 → A_readField_j44 N S1 = some (v0, S0) → Go g 0 0 sh M1 sz 44 [(0, vr r)] [] := by
    intro S1 M1 hm hF
    rw [A_readField_j44_e] at hF
    exact go_vret X d_Model_readField_44 rfl (by decide) (by decide) (ret_v hF hm)
  rw [A_readField_e] at hF
  refine go_aload_n X d_Model_readField_0 rfl rfl ?_
  obtain ⟨v1, S2, hG3, hF4⟩ := bnd_t hF
  refine go_cV (st2 := []) (r := []) X k_Model_177 (a_word l D h hG3) h.1.1 rfl rfl (by decide) (Nat.le_of_ble_eq_true rfl) d_Model_readField_1 (by decide) (by decide) (fun v' sh' M5 sz' hpp => ?_)
  obtain ⟨e1, e2, e3, hv7, md6⟩ := hpp
  subst e1
  rw [e2, e3]
  clear e2 e3
  show Go g 0 0 sh M5 sz 4 [(0, vr r)] [vl v1]
  refine go_lstore_n (lv' := [(1, vl v1), (0, vr r)]) X d_Model_readField_4 rfl (by decide) rfl ?_
  refine go_aload_n X d_Model_readField_5 rfl rfl ?_
  refine go_bipush (v := 61) X d_Model_readField_6 (by decide) ?_
  obtain ⟨v8, S9, hG10, hF11⟩ := bnd_t hF4
  refine go_cV (st2 := []) (r := []) X k_Model_188 (a_expect l D md6 (by decide) hG10) md6.1.1 rfl rfl (by decide) (Nat.le_of_ble_eq_true rfl) d_Model_readField_8 (by decide) (by decide) (fun v' sh' M12 sz' hpp => ?_)
  obtain ⟨e1, e2, e3, md13⟩ := hpp
  subst e1
  rw [e2, e3]
  clear e2 e3
  show Go g 0 0 sh M12 sz 11 [(1, vl v1), (0, vr r)] []
  refine go_aload_n X d_Model_readField_11 rfl rfl ?_
  obtain ⟨v15, S16, hG17, hF18⟩ := bnd_t hF11
  refine go_cV (st2 := []) (r := []) X k_Model_191 (a_readValue l D md13 hG17) md13.1.1 rfl rfl (by decide) (Nat.le_of_ble_eq_true rfl) d_Model_readField_12 (by decide) (by decide) (fun v' sh' M19 sz' hpp => ?_)
  obtain ⟨e1, e2, e3, md20⟩ := hpp
  subst e1
  rw [e2, e3]
  clear e2 e3
  show Go g 0 0 sh M19 sz 15 [(1, vl v1), (0, vr r)] []
  refine go_aload_n X d_Model_readField_15 rfl rfl ?_
  refine go_get (v := vi (S16 0 18)) X f_Model_140 md20.1.1 rfl d_Model_readField_16 (congrArg (s_v .boolean) ((md20.s 18).trans (rfl))) ?_
  refine go_if_ne (tgt := 44) X d_Model_readField_19 rfl (rI_z (md20.gB 18 (by decide) (by decide))) (fun hq22 => ?_) (fun hq22 => ?_)
  · skip
    have hF23 := if_f hF18 hq22
    refine go_lv (lv' := [(0, vr r)]) X [1] rfl ?_
    exact hJ44  S16 M19  md20 hF23
  · skip
    have hF24 := if_t hF18 hq22
    refine go_aload_n X d_Model_readField_22 rfl rfl ?_
    refine go_bipush (v := 8) X d_Model_readField_23 (by decide) ?_
    refine go_lload_n X d_Model_readField_25 rfl rfl ?_
    obtain ⟨v25, S26, hG27, hF28⟩ := bnd_t hF24
    refine go_cV (st2 := []) (r := []) X k_Model_197 (a_own l D md20 (by decide) hv7 hG27) md20.1.1 rfl rfl (by decide) (Nat.le_of_ble_eq_true rfl) d_Model_readField_26 (by decide) (by decide) (fun v' sh' M29 sz' hpp => ?_)
    obtain ⟨e1, e2, e3, hv31, md30⟩ := hpp
    subst e1
    rw [e2, e3]
    clear e2 e3
    show Go g 0 0 sh M29 sz 29 [(1, vl v1), (0, vr r)] [vi v25]
    refine go_if_ge (tgt := 44) X d_Model_readField_29 rfl hv31 (fun hq32 => ?_) (fun hq32 => ?_)
    · skip
      have hF33 := if_f hF28 (Int.not_lt.mpr hq32)
      refine go_lv (lv' := [(0, vr r)]) X [1] rfl ?_
      exact hJ44  S26 M29  md30 hF33
    · skip
      have hF34 := if_t hF28 hq32
      refine go_aload_n X d_Model_readField_32 rfl rfl ?_
      refine go_get (v := vr (r + 7)) X f_Model_29 md30.1.1 rfl d_Model_readField_33 (s_varr (md30.1.2.2 6 _ rfl).2 (by omega)) ?_
      refine go_bipush (v := 8) X d_Model_readField_36 (by decide) ?_
      refine go_iald X (md30.1.2.2 6 _ rfl).1 (by decide) (by decide) d_Model_readField_38 ?_
      refine go_top (v' := vi (S26 7 8)) X (congrArg (fun q => vi q) ((md30.a (by decide) 8).trans (rfl))) ?_
      refine go_bipush (v := 6) X d_Model_readField_39 (by decide) ?_
      refine go_icmp_ne (tgt := 45) X d_Model_readField_41 rfl (md30.gA (by decide) 8) (by decide) (fun hq35 => ?_) (fun hq35 => ?_)
      · skip
        have hF36 := if_f hF34 hq35
        refine go_aload_n X d_Model_readField_45 rfl rfl ?_
        refine go_get (v := vr (r + 8)) X f_Model_32 md30.1.1 rfl d_Model_readField_46 (s_varr (md30.1.2.2 7 _ rfl).2 (by omega)) ?_
        refine go_bipush (v := 48) X d_Model_readField_49 (by decide) ?_
        refine go_aload_n X d_Model_readField_51 rfl rfl ?_
        refine go_get (v := vr (r + 7)) X f_Model_29 md30.1.1 rfl d_Model_readField_52 (s_varr (md30.1.2.2 6 _ rfl).2 (by omega)) ?_
        refine go_bipush (v := 8) X d_Model_readField_55 (by decide) ?_
        refine go_iald X (md30.1.2.2 6 _ rfl).1 (by decide) (by decide) d_Model_readField_57 ?_
        refine go_top (v' := vi (S26 7 8)) X (congrArg (fun q => vi q) ((md30.a (by decide) 8).trans (rfl))) ?_
        refine go_iadd X d_Model_readField_58 ?_
        obtain ⟨hc37, hF38⟩ := chk_t hF36
        refine go_lload_n X d_Model_readField_59 rfl rfl ?_
        obtain ⟨hc39, hF40⟩ := chk_t hF38
        refine go_last (x := v1) X (md30.1.2.2 7 _ rfl).1 (by decide) hc39 d_Model_readField_60 ?_
        have md41 : mq sh M0 (m_s M29 (r + 8) (48 + (S26 7 8)) v1) r (m_s S26 8 (48 + (S26 7 8)) v1) := md30.put (by decide) ((rg_L (by decide) hv7))
        generalize m_s M29 (r + 8) (48 + (S26 7 8)) v1 = M42 at md41 ⊢
        refine go_aload_n X d_Model_readField_61 rfl rfl ?_
        refine go_bipush (v := 82) X d_Model_readField_62 (by decide) ?_
        refine go_bipush (v := 48) X d_Model_readField_64 (by decide) ?_
        refine go_aload_n X d_Model_readField_66 rfl rfl ?_
        refine go_get (v := vr (r + 7)) X f_Model_29 md41.1.1 rfl d_Model_readField_67 (s_varr (md41.1.2.2 6 _ rfl).2 (by omega)) ?_
        refine go_bipush (v := 8) X d_Model_readField_70 (by decide) ?_
        refine go_iald X (md41.1.2.2 6 _ rfl).1 (by decide) (by decide) d_Model_readField_72 ?_
        refine go_top (v' := vi (S26 7 8)) X (congrArg (fun q => vi q) ((md41.a (by decide) 8).trans ((m_sk (by decide)).trans (rfl)))) ?_
        refine go_iadd X d_Model_readField_73 ?_
        obtain ⟨hc43, hF44⟩ := chk_t hF40
        obtain ⟨v45, S46, hG47, hF48⟩ := bnd_t hF44
        refine go_cV (st2 := []) (r := []) X k_Model_194 (a_copy l D md41 (by decide) hc43 hG47) md41.1.1 rfl rfl (by decide) (Nat.le_of_ble_eq_true rfl) d_Model_readField_74 (by decide) (by decide) (fun v' sh' M49 sz' hpp => ?_)
        obtain ⟨e1, e2, e3, md50⟩ := hpp
        subst e1
        rw [e2, e3]
        clear e2 e3
        show Go g 0 0 sh M49 sz 77 [(1, vl v1), (0, vr r)] []
        refine go_aload_n X d_Model_readField_77 rfl rfl ?_
        refine go_get (v := vr (r + 7)) X f_Model_29 md50.1.1 rfl d_Model_readField_78 (s_varr (md50.1.2.2 6 _ rfl).2 (by omega)) ?_
        refine go_bipush (v := 8) X d_Model_readField_81 (by decide) ?_
        refine go_dup2 X d_Model_readField_83 rfl rfl ?_
        refine go_iald X (md50.1.2.2 6 _ rfl).1 (by decide) (by decide) d_Model_readField_84 ?_
        refine go_top (v' := vi (S46 7 8)) X (congrArg (fun q => vi q) ((md50.a (by decide) 8).trans (rfl))) ?_
        refine go_iconst (v := 1) X d_Model_readField_85 ?_
        refine go_iadd X d_Model_readField_86 ?_
        obtain ⟨hc52, hF53⟩ := chk_t hF48
        refine go_iast (x := ((S46 7 8) + 1)) X (md50.1.2.2 6 _ rfl).1 (by decide) (by decide) d_Model_readField_87 ?_
        have md54 : mq sh M0 (m_s M49 (r + 7) 8 ((S46 7 8) + 1)) r (m_s S46 7 8 ((S46 7 8) + 1)) := md50.put (by decide) ((rg_A (by decide) hc52))
        generalize m_s M49 (r + 7) 8 ((S46 7 8) + 1) = M55 at md54 ⊢
        exact go_vret X d_Model_readField_88 rfl (by decide) (by decide) (ret_v hF53 md54)
      · skip
        have hF56 := if_t hF34 hq35
        refine go_lv (lv' := [(0, vr r)]) X [1] rfl ?_
        exact hJ44  S26 M29  md30 hF56
def A_entry_l198 (N : Nat) : Nat → Int → s_M → rO
  | 0, _, _ => none
  | n + 1, x6, S => if x6 < (S 7 8) then (chk (rI (6 * (S 0 6))) <| chk (rI ((6 * (S 0 6)) + x6)) <| chk (rI (48 + x6)) <| chk (0 ≤ (48 + x6) ∧ (48 + x6) < 54) <| chk (0 ≤ ((6 * (S 0 6)) + x6) ∧ ((6 * (S 0 6)) + x6) < 54) <| chk (rI (48 + x6)) <| chk (rI (6 * (S 0 6))) <| chk (rI ((6 * (S 0 6)) + x6)) <| bnd (A_copy N (48 + x6) ((6 * (S 0 6)) + x6) (m_s S 8 ((6 * (S 0 6)) + x6) (S 8 (48 + x6)))) fun v26 S27 => chk (rI (x6 + 1)) <| (A_entry_l198 N n) (x6 + 1) S27) else (chk (rI ((S 0 6) + 1)) <| some (0, m_s S 0 6 ((S 0 6) + 1)))
theorem A_entry_l198_e (N : Nat) (n : Nat) (x6 : Int) (S : s_M) : A_entry_l198 N (n + 1) x6 S = (if x6 < (S 7 8) then (chk (rI (6 * (S 0 6))) <| chk (rI ((6 * (S 0 6)) + x6)) <| chk (rI (48 + x6)) <| chk (0 ≤ (48 + x6) ∧ (48 + x6) < 54) <| chk (0 ≤ ((6 * (S 0 6)) + x6) ∧ ((6 * (S 0 6)) + x6) < 54) <| chk (rI (48 + x6)) <| chk (rI (6 * (S 0 6))) <| chk (rI ((6 * (S 0 6)) + x6)) <| bnd (A_copy N (48 + x6) ((6 * (S 0 6)) + x6) (m_s S 8 ((6 * (S 0 6)) + x6) (S 8 (48 + x6)))) fun v26 S27 => chk (rI (x6 + 1)) <| (A_entry_l198 N n) (x6 + 1) S27) else (chk (rI ((S 0 6) + 1)) <| some (0, m_s S 0 6 ((S 0 6) + 1)))) := rfl
def A_entry_j141 (N : Nat) (x3 : Int) (S : s_M) : rO := bnd (A_findKey N x3 S) fun v35 S36 => bnd (A_warn N (if v35 < 0 then (5 : Int) else 4) S36) fun v44 S45 => some (0, S45)
theorem A_entry_j141_e (N : Nat) (x3 : Int) (S : s_M) : A_entry_j141 N x3 S = (bnd (A_findKey N x3 S) fun v35 S36 => bnd (A_warn N (if v35 < 0 then (5 : Int) else 4) S36) fun v44 S45 => some (0, S45)) := rfl
def A_entry_j105 (N : Nat) (k27 : Int → Int → Int → s_M → rO) (x1 x3 y0 : Int) (S : s_M) : rO := k27 x1 x3 y0 S
theorem A_entry_j105_e (N : Nat) (k27 : Int → Int → Int → s_M → rO) (x1 x3 y0 : Int) (S : s_M) : A_entry_j105 N k27 x1 x3 y0 S = (k27 x1 x3 y0 S) := rfl
def A_entry_j104 (N : Nat) (k27 : Int → Int → Int → s_M → rO) (x1 x3 : Int) (S : s_M) : rO := A_entry_j105 N k27 x1 x3 0 S
theorem A_entry_j104_e (N : Nat) (k27 : Int → Int → Int → s_M → rO) (x1 x3 : Int) (S : s_M) : A_entry_j104 N k27 x1 x3 S = (A_entry_j105 N k27 x1 x3 0 S) := rfl
def A_entry_j84 (N : Nat) (k27 : Int → Int → Int → s_M → rO) (x1 x3 : Int) (S : s_M) : rO := if (S 0 18) = 0 then (bnd (A_here N S) fun v54 S55 => if v54 = 125 then (A_entry_j104 N k27 x1 x3 S55) else (A_entry_j105 N k27 x1 x3 1 S55)) else (A_entry_j104 N k27 x1 x3 S)
theorem A_entry_j84_e (N : Nat) (k27 : Int → Int → Int → s_M → rO) (x1 x3 : Int) (S : s_M) : A_entry_j84 N k27 x1 x3 S = (if (S 0 18) = 0 then (bnd (A_here N S) fun v54 S55 => if v54 = 125 then (A_entry_j104 N k27 x1 x3 S55) else (A_entry_j105 N k27 x1 x3 1 S55)) else (A_entry_j104 N k27 x1 x3 S)) := rfl
def A_entry_l27 (N : Nat) : Nat → Int → Int → Int → s_M → rO
  | 0, _, _, _, _ => none
  | n + 1, x1, x3, x5, S => if x5 = 0 then (bnd (A_expect N 125 S) fun v66 S67 => if (S67 0 18) = 0 then (bnd (A_findKey N x3 S67) fun v75 S76 => if v75 < 0 then (if (S76 0 6) = 8 then (A_entry_j141 N x3 S76) else (chk (0 ≤ (S76 0 6) ∧ (S76 0 6) < 9) <| chk (0 ≤ (S76 0 6) ∧ (S76 0 6) < 9) <| chk (0 ≤ (S76 0 6) ∧ (S76 0 6) < 9) <| A_entry_l198 N N 0 (m_s (m_s (m_s S76 5 (S76 0 6) x3) 6 (S76 0 6) x1) 7 (S76 0 6) (S76 7 8)))) else (A_entry_j141 N x3 S76)) else (some (0, S67))) else (bnd (A_blanks N S) fun v102 S103 => bnd (A_here N S103) fun v109 S110 => if (if v109 = 44 then (1 : Int) else 0) = 0 then ((A_entry_l27 N n) x1 x3 (if v109 = 44 then (1 : Int) else 0) S110) else (chk (rI ((S110 0 17) + 1)) <| bnd (A_blanks N (m_s S110 0 17 ((S110 0 17) + 1))) fun v125 S126 => bnd (A_here N S126) fun v132 S133 => if v132 = 125 then (A_entry_j84 N (A_entry_l27 N n) x1 x3 S133) else (bnd (A_readField N S133) fun v142 S143 => A_entry_j84 N (A_entry_l27 N n) x1 x3 S143)))
theorem A_entry_l27_e (N : Nat) (n : Nat) (x1 x3 x5 : Int) (S : s_M) : A_entry_l27 N (n + 1) x1 x3 x5 S = (if x5 = 0 then (bnd (A_expect N 125 S) fun v66 S67 => if (S67 0 18) = 0 then (bnd (A_findKey N x3 S67) fun v75 S76 => if v75 < 0 then (if (S76 0 6) = 8 then (A_entry_j141 N x3 S76) else (chk (0 ≤ (S76 0 6) ∧ (S76 0 6) < 9) <| chk (0 ≤ (S76 0 6) ∧ (S76 0 6) < 9) <| chk (0 ≤ (S76 0 6) ∧ (S76 0 6) < 9) <| A_entry_l198 N N 0 (m_s (m_s (m_s S76 5 (S76 0 6) x3) 6 (S76 0 6) x1) 7 (S76 0 6) (S76 7 8)))) else (A_entry_j141 N x3 S76)) else (some (0, S67))) else (bnd (A_blanks N S) fun v102 S103 => bnd (A_here N S103) fun v109 S110 => if (if v109 = 44 then (1 : Int) else 0) = 0 then ((A_entry_l27 N n) x1 x3 (if v109 = 44 then (1 : Int) else 0) S110) else (chk (rI ((S110 0 17) + 1)) <| bnd (A_blanks N (m_s S110 0 17 ((S110 0 17) + 1))) fun v125 S126 => bnd (A_here N S126) fun v132 S133 => if v132 = 125 then (A_entry_j84 N (A_entry_l27 N n) x1 x3 S133) else (bnd (A_readField N S133) fun v142 S143 => A_entry_j84 N (A_entry_l27 N n) x1 x3 S143)))) := rfl
def A_entry (N : Nat) (x1 : Int) (S : s_M) : rO := bnd (A_word N S) fun v149 S150 => A_entry_l27 N N x1 v149 (if (S150 0 18) = 0 then (1 : Int) else 0) (m_s S150 7 8 0)
theorem A_entry_e (N : Nat) (x1 : Int) (S : s_M) : A_entry N x1 S = (bnd (A_word N S) fun v149 S150 => A_entry_l27 N N x1 v149 (if (S150 0 18) = 0 then (1 : Int) else 0) (m_s S150 7 8 0)) := rfl
set_option maxHeartbeats 4000000 in
set_option maxRecDepth 100000 in
theorem a_entry (l : Launch) (D : va_G) {sh : s_S} {M0 M : s_M} {sz r x1 : Int} {N : Nat} {S S0 : s_M} {v0 : Int} (h : mq sh M0 M r S) (hx1 : rL x1) (hF : A_entry N x1 S = some (v0, S0)) : Sp l D y_Model_entry prog_14_method_35_code 7 none 8 0 0 [vr r, vl x1] sh M sz (fun v' sh' M' sz' => v' = none ∧ sh' = sh ∧ sz' = sz ∧ mq sh M0 M' r S0) := by
  have hr0 := h.1.2.1
  refine Sp.ofGo (own := "CiteForgeModel") (nm := "entry") (by decide) rfl rfl (Nat.le_of_ble_eq_true rfl) (lv := [(0, vr r), (1, vl x1)]) rfl ?_
  intro g X
  have hL198 : ∀ (n198 : Nat) (x6 : Int) (S1 M1 : s_M), rI x6 → mq sh M0 M1 r S1 → A_entry_l198 N n198 x6 S1 = some (v0, S0) → Go g 0 0 sh M1 sz 198 [(0, vr r), (6, vi x6)] [] := by
    intro n198
    induction n198 with
    | zero => intro x6 S1 M1 hx6 hm hF; cases hF
    | succ n198 ih198 =>
      intro x6 S1 M1 hx6 hm hF
      rw [A_entry_l198_e] at hF
      refine go_iload X d_Model_entry_198 rfl ?_
      refine go_aload_n X d_Model_entry_200 rfl rfl ?_
      refine go_get (v := vr (r + 7)) X f_Model_29 hm.1.1 rfl d_Model_entry_201 (s_varr (hm.1.2.2 6 _ rfl).2 (by omega)) ?_
      refine go_bipush (v := 8) X d_Model_entry_204 (by decide) ?_
      refine go_iald X (hm.1.2.2 6 _ rfl).1 (by decide) (by decide) d_Model_entry_206 ?_
      refine go_top (v' := vi (S1 7 8)) X (congrArg (fun q => vi q) ((hm.a (by decide) 8).trans (rfl))) ?_
      refine go_icmp_ge (tgt := 260) X d_Model_entry_207 rfl hx6 (hm.gA (by decide) 8) (fun hq1 => ?_) (fun hq1 => ?_)
      · skip
        have hF2 := if_f hF (Int.not_lt.mpr hq1)
        refine go_aload_n X d_Model_entry_260 rfl rfl ?_
        refine go_dup X d_Model_entry_261 rfl ?_
        refine go_get (v := vi (S1 0 6)) X f_Model_201 hm.1.1 rfl d_Model_entry_262 (congrArg (s_v .int) ((hm.s 6).trans (rfl))) ?_
        refine go_iconst (v := 1) X d_Model_entry_265 ?_
        refine go_iadd X d_Model_entry_266 ?_
        obtain ⟨hc3, hF4⟩ := chk_t hF2
        refine go_put (x := ((S1 0 6) + 1)) (v := vi ((S1 0 6) + 1)) X f_Model_201 hm.1.1 rfl d_Model_entry_267 rfl rfl rfl ?_
        have md5 : mq sh M0 (m_s M1 r 6 ((S1 0 6) + 1)) r (m_s S1 0 6 ((S1 0 6) + 1)) := hm.put0 (by decide) ((rg_S (by decide) (by decide) hc3))
        generalize m_s M1 r 6 ((S1 0 6) + 1) = M6 at md5 ⊢
        exact go_vret X d_Model_entry_270 rfl (by decide) (by decide) (ret_v hF4 md5)
      · skip
        have hF7 := if_t hF hq1
        refine go_aload_n X d_Model_entry_210 rfl rfl ?_
        refine go_get (v := vr (r + 8)) X f_Model_32 hm.1.1 rfl d_Model_entry_211 (s_varr (hm.1.2.2 7 _ rfl).2 (by omega)) ?_
        refine go_bipush (v := 6) X d_Model_entry_214 (by decide) ?_
        refine go_aload_n X d_Model_entry_216 rfl rfl ?_
        refine go_get (v := vi (S1 0 6)) X f_Model_201 hm.1.1 rfl d_Model_entry_217 (congrArg (s_v .int) ((hm.s 6).trans (rfl))) ?_
        refine go_imul X d_Model_entry_220 ?_
        obtain ⟨hc8, hF9⟩ := chk_t hF7
        refine go_iload X d_Model_entry_221 rfl ?_
        refine go_iadd X d_Model_entry_223 ?_
        obtain ⟨hc10, hF11⟩ := chk_t hF9
        refine go_aload_n X d_Model_entry_224 rfl rfl ?_
        refine go_get (v := vr (r + 8)) X f_Model_32 hm.1.1 rfl d_Model_entry_225 (s_varr (hm.1.2.2 7 _ rfl).2 (by omega)) ?_
        refine go_bipush (v := 48) X d_Model_entry_228 (by decide) ?_
        refine go_iload X d_Model_entry_230 rfl ?_
        refine go_iadd X d_Model_entry_232 ?_
        obtain ⟨hc12, hF13⟩ := chk_t hF11
        obtain ⟨hc14, hF15⟩ := chk_t hF13
        refine go_lald X (hm.1.2.2 7 _ rfl).1 (by decide) hc14 d_Model_entry_233 ?_
        refine go_top (v' := vl (S1 8 (48 + x6))) X (congrArg (fun q => vl q) ((hm.a (by decide) (48 + x6)).trans (rfl))) ?_
        obtain ⟨hc16, hF17⟩ := chk_t hF15
        refine go_last (x := (S1 8 (48 + x6))) X (hm.1.2.2 7 _ rfl).1 (by decide) hc16 d_Model_entry_234 ?_
        have md18 : mq sh M0 (m_s M1 (r + 8) ((6 * (S1 0 6)) + x6) (S1 8 (48 + x6))) r (m_s S1 8 ((6 * (S1 0 6)) + x6) (S1 8 (48 + x6))) := hm.put (by decide) ((rg_L (by decide) (hm.gL (by decide) (48 + x6))))
        generalize m_s M1 (r + 8) ((6 * (S1 0 6)) + x6) (S1 8 (48 + x6)) = M19 at md18 ⊢
        refine go_aload_n X d_Model_entry_235 rfl rfl ?_
        refine go_bipush (v := 48) X d_Model_entry_236 (by decide) ?_
        refine go_iload X d_Model_entry_238 rfl ?_
        refine go_iadd X d_Model_entry_240 ?_
        obtain ⟨hc20, hF21⟩ := chk_t hF17
        refine go_bipush (v := 6) X d_Model_entry_241 (by decide) ?_
        refine go_aload_n X d_Model_entry_243 rfl rfl ?_
        refine go_get (v := vi (S1 0 6)) X f_Model_201 md18.1.1 rfl d_Model_entry_244 (congrArg (s_v .int) ((md18.s 6).trans ((m_sk (by decide)).trans (rfl)))) ?_
        refine go_imul X d_Model_entry_247 ?_
        obtain ⟨hc22, hF23⟩ := chk_t hF21
        refine go_iload X d_Model_entry_248 rfl ?_
        refine go_iadd X d_Model_entry_250 ?_
        obtain ⟨hc24, hF25⟩ := chk_t hF23
        obtain ⟨v26, S27, hG28, hF29⟩ := bnd_t hF25
        refine go_cV (st2 := []) (r := []) X k_Model_194 (a_copy l D md18 hc20 hc24 hG28) md18.1.1 rfl rfl (by decide) (Nat.le_of_ble_eq_true rfl) d_Model_entry_251 (by decide) (by decide) (fun v' sh' M30 sz' hpp => ?_)
        obtain ⟨e1, e2, e3, md31⟩ := hpp
        subst e1
        rw [e2, e3]
        clear e2 e3
        show Go g 0 0 sh M30 sz 254 [(0, vr r), (6, vi x6)] []
        obtain ⟨hc33, hF34⟩ := chk_t hF29
        refine go_iinc (v := 1) (x := x6) (lv' := [(6, vi (x6 + 1)), (0, vr r)]) X d_Model_entry_254 rfl (by decide) rfl ?_
        refine go_goto (tgt := 198) X d_Model_entry_257 rfl ?_
        refine go_lv (lv' := [(0, vr r), (6, vi (x6 + 1))]) X [1, 0] rfl ?_
        exact ih198 (x6 + 1) S27 M30 hc33 md31 hF34
  have hJ141 : ∀ (x3 : Int) (S1 M1 : s_M), rL x3 → mq sh M0 M1 r S1 → A_entry_j141 N x3 S1 = some (v0, S0) → Go g 0 0 sh M1 sz 141 [(0, vr r), (3, vl x3)] [] := by
    intro x3 S1 M1 hx3 hm hF
    rw [A_entry_j141_e] at hF
    refine go_aload_n X d_Model_entry_141 rfl rfl ?_
    refine go_aload_n X d_Model_entry_142 rfl rfl ?_
    refine go_lload_n X d_Model_entry_143 rfl rfl ?_
    obtain ⟨v35, S36, hG37, hF38⟩ := bnd_t hF
    refine go_cV (st2 := []) (r := [vr r]) X k_Model_207 (a_findKey l D hm hx3 hG37) hm.1.1 rfl rfl (by decide) (Nat.le_of_ble_eq_true rfl) d_Model_entry_144 (by decide) (by decide) (fun v' sh' M39 sz' hpp => ?_)
    obtain ⟨e1, e2, e3, hv41, md40⟩ := hpp
    subst e1
    rw [e2, e3]
    clear e2 e3
    show Go g 0 0 sh M39 sz 147 [(0, vr r), (3, vl x3)] [vi v35, vr r]
    suffices hv42 : Go g 0 0 sh M39 sz 155 [(0, vr r), (3, vl x3)] [vi (if v35 < 0 then (5 : Int) else 4), vr r] by
      refine go_if_lt (tgt := 154) X d_Model_entry_147 rfl hv41 (fun hq43 => ?_) (fun hq43 => ?_)
      · skip
        refine go_iconst (v := 5) X d_Model_entry_154 ?_
        refine go_top (v' := vi (if v35 < 0 then (5 : Int) else 4)) X (congrArg (fun q => vi q) (show 5 = if v35 < 0 then (5 : Int) else 4 from ((if_pos hq43)).symm)) ?_
        exact hv42
      · skip
        refine go_iconst (v := 4) X d_Model_entry_150 ?_
        refine go_goto (tgt := 155) X d_Model_entry_151 rfl ?_
        refine go_top (v' := vi (if v35 < 0 then (5 : Int) else 4)) X (congrArg (fun q => vi q) (show 4 = if v35 < 0 then (5 : Int) else 4 from ((if_neg (Int.not_lt.mpr hq43))).symm)) ?_
        exact hv42
    obtain ⟨v44, S45, hG46, hF47⟩ := bnd_t hF38
    refine go_cV (st2 := []) (r := []) X k_Model_144 (a_warn l D md40 (rI_ite (by decide) (by decide)) hG46) md40.1.1 rfl rfl (by decide) (Nat.le_of_ble_eq_true rfl) d_Model_entry_155 (by decide) (by decide) (fun v' sh' M48 sz' hpp => ?_)
    obtain ⟨e1, e2, e3, md49⟩ := hpp
    subst e1
    rw [e2, e3]
    clear e2 e3
    show Go g 0 0 sh M48 sz 158 [(0, vr r), (3, vl x3)] []
    exact go_vret X d_Model_entry_158 rfl (by decide) (by decide) (ret_v hF47 md49)
  have hL27 : ∀ (n27 : Nat) (x1 x3 x5 : Int) (S1 M1 : s_M), rL x1 → rL x3 → rI x5 → mq sh M0 M1 r S1 → A_entry_l27 N n27 x1 x3 x5 S1 = some (v0, S0) → Go g 0 0 sh M1 sz 27 [(0, vr r), (1, vl x1), (3, vl x3), (5, vi x5)] [] := by
    intro n27
    induction n27 with
    | zero => intro x1 x3 x5 S1 M1 hx1 hx3 hx5 hm hF; cases hF
    | succ n27 ih27 =>
      have hJ105 : ∀ (x1 x3 y0 : Int) (S1 M1 : s_M), rL x1 → rL x3 → rI y0 → mq sh M0 M1 r S1 → A_entry_j105 N (A_entry_l27 N n27) x1 x3 y0 S1 = some (v0, S0) → Go g 0 0 sh M1 sz 105 [(0, vr r), (1, vl x1), (3, vl x3)] [vi y0] := by
        intro x1 x3 y0 S1 M1 hx1 hx3 hy0 hm hF
        rw [A_entry_j105_e] at hF
        refine go_istore (lv' := [(5, vi y0), (0, vr r), (1, vl x1), (3, vl x3)]) X d_Model_entry_105 (by decide) rfl ?_
        refine go_goto (tgt := 27) X d_Model_entry_107 rfl ?_
        refine go_lv (lv' := [(0, vr r), (1, vl x1), (3, vl x3), (5, vi y0)]) X [1, 2, 3, 0] rfl ?_
        exact ih27 x1 x3 y0 S1 M1 hx1 hx3 hy0 hm hF
      have hJ104 : ∀ (x1 x3 : Int) (S1 M1 : s_M), rL x1 → rL x3 → mq sh M0 M1 r S1 → A_entry_j104 N (A_entry_l27 N n27) x1 x3 S1 = some (v0, S0) → Go g 0 0 sh M1 sz 104 [(0, vr r), (1, vl x1), (3, vl x3)] [] := by
        intro x1 x3 S1 M1 hx1 hx3 hm hF
        rw [A_entry_j104_e] at hF
        refine go_iconst (v := 0) X d_Model_entry_104 ?_
        refine go_lv (lv' := [(0, vr r), (1, vl x1), (3, vl x3)]) X [0, 1, 2] rfl ?_
        exact hJ105 x1 x3 0 S1 M1 hx1 hx3 (by decide) hm hF
      have hJ84 : ∀ (x1 x3 : Int) (S1 M1 : s_M), rL x1 → rL x3 → mq sh M0 M1 r S1 → A_entry_j84 N (A_entry_l27 N n27) x1 x3 S1 = some (v0, S0) → Go g 0 0 sh M1 sz 84 [(0, vr r), (1, vl x1), (3, vl x3)] [] := by
        intro x1 x3 S1 M1 hx1 hx3 hm hF
        rw [A_entry_j84_e] at hF
        refine go_aload_n X d_Model_entry_84 rfl rfl ?_
        refine go_get (v := vi (S1 0 18)) X f_Model_140 hm.1.1 rfl d_Model_entry_85 (congrArg (s_v .boolean) ((hm.s 18).trans (rfl))) ?_
        refine go_if_ne (tgt := 104) X d_Model_entry_88 rfl (rI_z (hm.gB 18 (by decide) (by decide))) (fun hq51 => ?_) (fun hq51 => ?_)
        · skip
          have hF52 := if_f hF hq51
          refine go_lv (lv' := [(0, vr r), (1, vl x1), (3, vl x3)]) X [0, 1, 2] rfl ?_
          exact hJ104 x1 x3 S1 M1 hx1 hx3 hm hF52
        · skip
          have hF53 := if_t hF hq51
          refine go_aload_n X d_Model_entry_91 rfl rfl ?_
          obtain ⟨v54, S55, hG56, hF57⟩ := bnd_t hF53
          refine go_cV (st2 := []) (r := []) X k_Model_136 (a_here l D hm hG56) hm.1.1 rfl rfl (by decide) (Nat.le_of_ble_eq_true rfl) d_Model_entry_92 (by decide) (by decide) (fun v' sh' M58 sz' hpp => ?_)
          obtain ⟨e1, e2, e3, hv60, md59⟩ := hpp
          subst e1
          rw [e2, e3]
          clear e2 e3
          show Go g 0 0 sh M58 sz 95 [(0, vr r), (1, vl x1), (3, vl x3)] [vi v54]
          refine go_bipush (v := 125) X d_Model_entry_95 (by decide) ?_
          refine go_icmp_eq (tgt := 104) X d_Model_entry_97 rfl hv60 (by decide) (fun hq61 => ?_) (fun hq61 => ?_)
          · skip
            have hF62 := if_t hF57 hq61
            refine go_lv (lv' := [(0, vr r), (1, vl x1), (3, vl x3)]) X [0, 1, 2] rfl ?_
            exact hJ104 x1 x3 S55 M58 hx1 hx3 md59 hF62
          · skip
            have hF63 := if_f hF57 hq61
            refine go_iconst (v := 1) X d_Model_entry_100 ?_
            refine go_goto (tgt := 105) X d_Model_entry_101 rfl ?_
            refine go_lv (lv' := [(0, vr r), (1, vl x1), (3, vl x3)]) X [0, 1, 2] rfl ?_
            exact hJ105 x1 x3 1 S55 M58 hx1 hx3 (by decide) md59 hF63
      intro x1 x3 x5 S1 M1 hx1 hx3 hx5 hm hF
      rw [A_entry_l27_e] at hF
      refine go_iload X d_Model_entry_27 rfl ?_
      refine go_if_eq (tgt := 110) X d_Model_entry_29 rfl hx5 (fun hq64 => ?_) (fun hq64 => ?_)
      · skip
        have hF65 := if_t hF hq64
        refine go_aload_n X d_Model_entry_110 rfl rfl ?_
        refine go_bipush (v := 125) X d_Model_entry_111 (by decide) ?_
        obtain ⟨v66, S67, hG68, hF69⟩ := bnd_t hF65
        refine go_cV (st2 := []) (r := []) X k_Model_188 (a_expect l D hm (by decide) hG68) hm.1.1 rfl rfl (by decide) (Nat.le_of_ble_eq_true rfl) d_Model_entry_113 (by decide) (by decide) (fun v' sh' M70 sz' hpp => ?_)
        obtain ⟨e1, e2, e3, md71⟩ := hpp
        subst e1
        rw [e2, e3]
        clear e2 e3
        show Go g 0 0 sh M70 sz 116 [(0, vr r), (1, vl x1), (3, vl x3), (5, vi x5)] []
        refine go_aload_n X d_Model_entry_116 rfl rfl ?_
        refine go_get (v := vi (S67 0 18)) X f_Model_140 md71.1.1 rfl d_Model_entry_117 (congrArg (s_v .boolean) ((md71.s 18).trans (rfl))) ?_
        refine go_if_eq (tgt := 124) X d_Model_entry_120 rfl (rI_z (md71.gB 18 (by decide) (by decide))) (fun hq73 => ?_) (fun hq73 => ?_)
        · skip
          have hF74 := if_t hF69 hq73
          refine go_aload_n X d_Model_entry_124 rfl rfl ?_
          refine go_lload_n X d_Model_entry_125 rfl rfl ?_
          obtain ⟨v75, S76, hG77, hF78⟩ := bnd_t hF74
          refine go_cV (st2 := []) (r := []) X k_Model_207 (a_findKey l D md71 hx3 hG77) md71.1.1 rfl rfl (by decide) (Nat.le_of_ble_eq_true rfl) d_Model_entry_126 (by decide) (by decide) (fun v' sh' M79 sz' hpp => ?_)
          obtain ⟨e1, e2, e3, hv81, md80⟩ := hpp
          subst e1
          rw [e2, e3]
          clear e2 e3
          show Go g 0 0 sh M79 sz 129 [(0, vr r), (1, vl x1), (3, vl x3), (5, vi x5)] [vi v75]
          refine go_if_ge (tgt := 141) X d_Model_entry_129 rfl hv81 (fun hq82 => ?_) (fun hq82 => ?_)
          · skip
            have hF83 := if_f hF78 (Int.not_lt.mpr hq82)
            refine go_lv (lv' := [(0, vr r), (3, vl x3)]) X [0, 2] rfl ?_
            exact hJ141 x3 S76 M79 hx3 md80 hF83
          · skip
            have hF84 := if_t hF78 hq82
            refine go_aload_n X d_Model_entry_132 rfl rfl ?_
            refine go_get (v := vi (S76 0 6)) X f_Model_201 md80.1.1 rfl d_Model_entry_133 (congrArg (s_v .int) ((md80.s 6).trans (rfl))) ?_
            refine go_bipush (v := 8) X d_Model_entry_136 (by decide) ?_
            refine go_icmp_ne (tgt := 159) X d_Model_entry_138 rfl (md80.gS 6 (by decide) (by decide)) (by decide) (fun hq85 => ?_) (fun hq85 => ?_)
            · skip
              have hF86 := if_f hF84 hq85
              refine go_aload_n X d_Model_entry_159 rfl rfl ?_
              refine go_get (v := vr (r + 5)) X f_Model_22 md80.1.1 rfl d_Model_entry_160 (s_varr (md80.1.2.2 4 _ rfl).2 (by omega)) ?_
              refine go_aload_n X d_Model_entry_163 rfl rfl ?_
              refine go_get (v := vi (S76 0 6)) X f_Model_201 md80.1.1 rfl d_Model_entry_164 (congrArg (s_v .int) ((md80.s 6).trans (rfl))) ?_
              refine go_lload_n X d_Model_entry_167 rfl rfl ?_
              obtain ⟨hc87, hF88⟩ := chk_t hF86
              refine go_last (x := x3) X (md80.1.2.2 4 _ rfl).1 (by decide) hc87 d_Model_entry_168 ?_
              have md89 : mq sh M0 (m_s M79 (r + 5) (S76 0 6) x3) r (m_s S76 5 (S76 0 6) x3) := md80.put (by decide) ((rg_L (by decide) hx3))
              generalize m_s M79 (r + 5) (S76 0 6) x3 = M90 at md89 ⊢
              refine go_aload_n X d_Model_entry_169 rfl rfl ?_
              refine go_get (v := vr (r + 6)) X f_Model_26 md89.1.1 rfl d_Model_entry_170 (s_varr (md89.1.2.2 5 _ rfl).2 (by omega)) ?_
              refine go_aload_n X d_Model_entry_173 rfl rfl ?_
              refine go_get (v := vi (S76 0 6)) X f_Model_201 md89.1.1 rfl d_Model_entry_174 (congrArg (s_v .int) ((md89.s 6).trans ((m_sk (by decide)).trans (rfl)))) ?_
              refine go_lload_n X d_Model_entry_177 rfl rfl ?_
              obtain ⟨hc91, hF92⟩ := chk_t hF88
              refine go_last (x := x1) X (md89.1.2.2 5 _ rfl).1 (by decide) hc91 d_Model_entry_178 ?_
              have md93 : mq sh M0 (m_s M90 (r + 6) (S76 0 6) x1) r (m_s (m_s S76 5 (S76 0 6) x3) 6 (S76 0 6) x1) := md89.put (by decide) ((rg_L (by decide) hx1))
              generalize m_s M90 (r + 6) (S76 0 6) x1 = M94 at md93 ⊢
              refine go_aload_n X d_Model_entry_179 rfl rfl ?_
              refine go_get (v := vr (r + 7)) X f_Model_29 md93.1.1 rfl d_Model_entry_180 (s_varr (md93.1.2.2 6 _ rfl).2 (by omega)) ?_
              refine go_aload_n X d_Model_entry_183 rfl rfl ?_
              refine go_get (v := vi (S76 0 6)) X f_Model_201 md93.1.1 rfl d_Model_entry_184 (congrArg (s_v .int) ((md93.s 6).trans ((m_sk (by decide)).trans ((m_sk (by decide)).trans (rfl))))) ?_
              refine go_aload_n X d_Model_entry_187 rfl rfl ?_
              refine go_get (v := vr (r + 7)) X f_Model_29 md93.1.1 rfl d_Model_entry_188 (s_varr (md93.1.2.2 6 _ rfl).2 (by omega)) ?_
              refine go_bipush (v := 8) X d_Model_entry_191 (by decide) ?_
              refine go_iald X (md93.1.2.2 6 _ rfl).1 (by decide) (by decide) d_Model_entry_193 ?_
              refine go_top (v' := vi (S76 7 8)) X (congrArg (fun q => vi q) ((md93.a (by decide) 8).trans ((m_sk (by decide)).trans ((m_sk (by decide)).trans (rfl))))) ?_
              obtain ⟨hc95, hF96⟩ := chk_t hF92
              refine go_iast (x := (S76 7 8)) X (md93.1.2.2 6 _ rfl).1 (by decide) hc95 d_Model_entry_194 ?_
              have md97 : mq sh M0 (m_s M94 (r + 7) (S76 0 6) (S76 7 8)) r (m_s (m_s (m_s S76 5 (S76 0 6) x3) 6 (S76 0 6) x1) 7 (S76 0 6) (S76 7 8)) := md93.put (by decide) ((rg_A (by decide) (rI_eq (md93.gA (by decide) 8) ((m_sk (by decide)).trans ((m_sk (by decide)).trans (rfl))))))
              generalize m_s M94 (r + 7) (S76 0 6) (S76 7 8) = M98 at md97 ⊢
              refine go_iconst (v := 0) X d_Model_entry_195 ?_
              refine go_istore (lv' := [(6, vi 0), (0, vr r), (1, vl x1), (3, vl x3), (5, vi x5)]) X d_Model_entry_196 (by decide) rfl ?_
              refine go_lv (lv' := [(0, vr r), (6, vi 0)]) X [1, 0] rfl ?_
              exact hL198 N 0 (m_s (m_s (m_s S76 5 (S76 0 6) x3) 6 (S76 0 6) x1) 7 (S76 0 6) (S76 7 8)) M98 (by decide) md97 hF96
            · skip
              have hF99 := if_t hF84 hq85
              refine go_lv (lv' := [(0, vr r), (3, vl x3)]) X [0, 2] rfl ?_
              exact hJ141 x3 S76 M79 hx3 md80 hF99
        · skip
          have hF100 := if_f hF69 hq73
          exact go_vret X d_Model_entry_123 rfl (by decide) (by decide) (ret_v hF100 md71)
      · skip
        have hF101 := if_f hF hq64
        refine go_aload_n X d_Model_entry_32 rfl rfl ?_
        obtain ⟨v102, S103, hG104, hF105⟩ := bnd_t hF101
        refine go_cV (st2 := []) (r := []) X k_Model_150 (a_blanks l D hm hG104) hm.1.1 rfl rfl (by decide) (Nat.le_of_ble_eq_true rfl) d_Model_entry_33 (by decide) (by decide) (fun v' sh' M106 sz' hpp => ?_)
        obtain ⟨e1, e2, e3, md107⟩ := hpp
        subst e1
        rw [e2, e3]
        clear e2 e3
        show Go g 0 0 sh M106 sz 36 [(0, vr r), (1, vl x1), (3, vl x3), (5, vi x5)] []
        refine go_aload_n X d_Model_entry_36 rfl rfl ?_
        obtain ⟨v109, S110, hG111, hF112⟩ := bnd_t hF105
        refine go_cV (st2 := []) (r := []) X k_Model_136 (a_here l D md107 hG111) md107.1.1 rfl rfl (by decide) (Nat.le_of_ble_eq_true rfl) d_Model_entry_37 (by decide) (by decide) (fun v' sh' M113 sz' hpp => ?_)
        obtain ⟨e1, e2, e3, hv115, md114⟩ := hpp
        subst e1
        rw [e2, e3]
        clear e2 e3
        show Go g 0 0 sh M113 sz 40 [(0, vr r), (1, vl x1), (3, vl x3), (5, vi x5)] [vi v109]
        refine go_bipush (v := 44) X d_Model_entry_40 (by decide) ?_
        suffices hv116 : Go g 0 0 sh M113 sz 50 [(0, vr r), (1, vl x1), (3, vl x3), (5, vi x5)] [vi (if v109 = 44 then (1 : Int) else 0)] by
          refine go_icmp_ne (tgt := 49) X d_Model_entry_42 rfl hv115 (by decide) (fun hq117 => ?_) (fun hq117 => ?_)
          · skip
            refine go_iconst (v := 0) X d_Model_entry_49 ?_
            refine go_top (v' := vi (if v109 = 44 then (1 : Int) else 0)) X (congrArg (fun q => vi q) (show 0 = if v109 = 44 then (1 : Int) else 0 from ((if_neg hq117)).symm)) ?_
            exact hv116
          · skip
            refine go_iconst (v := 1) X d_Model_entry_45 ?_
            refine go_goto (tgt := 50) X d_Model_entry_46 rfl ?_
            refine go_top (v' := vi (if v109 = 44 then (1 : Int) else 0)) X (congrArg (fun q => vi q) (show 1 = if v109 = 44 then (1 : Int) else 0 from ((if_pos hq117)).symm)) ?_
            exact hv116
        refine go_istore (lv' := [(5, vi (if v109 = 44 then (1 : Int) else 0)), (0, vr r), (1, vl x1), (3, vl x3)]) X d_Model_entry_50 (by decide) rfl ?_
        refine go_iload X d_Model_entry_52 rfl ?_
        refine go_if_eq (tgt := 27) X d_Model_entry_54 rfl (rI_ite (by decide) (by decide)) (fun hq118 => ?_) (fun hq118 => ?_)
        · skip
          have hF119 := if_t hF112 hq118
          refine go_lv (lv' := [(0, vr r), (1, vl x1), (3, vl x3), (5, vi (if v109 = 44 then (1 : Int) else 0))]) X [1, 2, 3, 0] rfl ?_
          exact ih27 x1 x3 (if v109 = 44 then (1 : Int) else 0) S110 M113 hx1 hx3 (rI_ite (by decide) (by decide)) md114 hF119
        · skip
          have hF120 := if_f hF112 hq118
          refine go_aload_n X d_Model_entry_57 rfl rfl ?_
          refine go_dup X d_Model_entry_58 rfl ?_
          refine go_get (v := vi (S110 0 17)) X f_Model_134 md114.1.1 rfl d_Model_entry_59 (congrArg (s_v .int) ((md114.s 17).trans (rfl))) ?_
          refine go_iconst (v := 1) X d_Model_entry_62 ?_
          refine go_iadd X d_Model_entry_63 ?_
          obtain ⟨hc121, hF122⟩ := chk_t hF120
          refine go_put (x := ((S110 0 17) + 1)) (v := vi ((S110 0 17) + 1)) X f_Model_134 md114.1.1 rfl d_Model_entry_64 rfl rfl rfl ?_
          have md123 : mq sh M0 (m_s M113 r 17 ((S110 0 17) + 1)) r (m_s S110 0 17 ((S110 0 17) + 1)) := md114.put0 (by decide) ((rg_S (by decide) (by decide) hc121))
          generalize m_s M113 r 17 ((S110 0 17) + 1) = M124 at md123 ⊢
          refine go_aload_n X d_Model_entry_67 rfl rfl ?_
          obtain ⟨v125, S126, hG127, hF128⟩ := bnd_t hF122
          refine go_cV (st2 := []) (r := []) X k_Model_150 (a_blanks l D md123 hG127) md123.1.1 rfl rfl (by decide) (Nat.le_of_ble_eq_true rfl) d_Model_entry_68 (by decide) (by decide) (fun v' sh' M129 sz' hpp => ?_)
          obtain ⟨e1, e2, e3, md130⟩ := hpp
          subst e1
          rw [e2, e3]
          clear e2 e3
          show Go g 0 0 sh M129 sz 71 [(5, vi (if v109 = 44 then (1 : Int) else 0)), (0, vr r), (1, vl x1), (3, vl x3)] []
          refine go_aload_n X d_Model_entry_71 rfl rfl ?_
          obtain ⟨v132, S133, hG134, hF135⟩ := bnd_t hF128
          refine go_cV (st2 := []) (r := []) X k_Model_136 (a_here l D md130 hG134) md130.1.1 rfl rfl (by decide) (Nat.le_of_ble_eq_true rfl) d_Model_entry_72 (by decide) (by decide) (fun v' sh' M136 sz' hpp => ?_)
          obtain ⟨e1, e2, e3, hv138, md137⟩ := hpp
          subst e1
          rw [e2, e3]
          clear e2 e3
          show Go g 0 0 sh M136 sz 75 [(5, vi (if v109 = 44 then (1 : Int) else 0)), (0, vr r), (1, vl x1), (3, vl x3)] [vi v132]
          refine go_bipush (v := 125) X d_Model_entry_75 (by decide) ?_
          refine go_icmp_eq (tgt := 84) X d_Model_entry_77 rfl hv138 (by decide) (fun hq139 => ?_) (fun hq139 => ?_)
          · skip
            have hF140 := if_t hF135 hq139
            refine go_lv (lv' := [(0, vr r), (1, vl x1), (3, vl x3)]) X [1, 2, 3] rfl ?_
            exact hJ84 x1 x3 S133 M136 hx1 hx3 md137 hF140
          · skip
            have hF141 := if_f hF135 hq139
            refine go_aload_n X d_Model_entry_80 rfl rfl ?_
            obtain ⟨v142, S143, hG144, hF145⟩ := bnd_t hF141
            refine go_cV (st2 := []) (r := []) X k_Model_204 (a_readField l D md137 hG144) md137.1.1 rfl rfl (by decide) (Nat.le_of_ble_eq_true rfl) d_Model_entry_81 (by decide) (by decide) (fun v' sh' M146 sz' hpp => ?_)
            obtain ⟨e1, e2, e3, md147⟩ := hpp
            subst e1
            rw [e2, e3]
            clear e2 e3
            show Go g 0 0 sh M146 sz 84 [(5, vi (if v109 = 44 then (1 : Int) else 0)), (0, vr r), (1, vl x1), (3, vl x3)] []
            refine go_lv (lv' := [(0, vr r), (1, vl x1), (3, vl x3)]) X [1, 2, 3] rfl ?_
            exact hJ84 x1 x3 S143 M146 hx1 hx3 md147 hF145
  rw [A_entry_e] at hF
  refine go_aload_n X d_Model_entry_0 rfl rfl ?_
  obtain ⟨v149, S150, hG151, hF152⟩ := bnd_t hF
  refine go_cV (st2 := []) (r := []) X k_Model_177 (a_word l D h hG151) h.1.1 rfl rfl (by decide) (Nat.le_of_ble_eq_true rfl) d_Model_entry_1 (by decide) (by decide) (fun v' sh' M153 sz' hpp => ?_)
  obtain ⟨e1, e2, e3, hv155, md154⟩ := hpp
  subst e1
  rw [e2, e3]
  clear e2 e3
  show Go g 0 0 sh M153 sz 4 [(0, vr r), (1, vl x1)] [vl v149]
  refine go_lstore_n (lv' := [(3, vl v149), (0, vr r), (1, vl x1)]) X d_Model_entry_4 rfl (by decide) rfl ?_
  refine go_aload_n X d_Model_entry_5 rfl rfl ?_
  refine go_get (v := vr (r + 7)) X f_Model_29 md154.1.1 rfl d_Model_entry_6 (s_varr (md154.1.2.2 6 _ rfl).2 (by omega)) ?_
  refine go_bipush (v := 8) X d_Model_entry_9 (by decide) ?_
  refine go_iconst (v := 0) X d_Model_entry_11 ?_
  refine go_iast (x := 0) X (md154.1.2.2 6 _ rfl).1 (by decide) (by decide) d_Model_entry_12 ?_
  have md156 : mq sh M0 (m_s M153 (r + 7) 8 0) r (m_s S150 7 8 0) := md154.put (by decide) ((rg_A (by decide) (by decide)))
  generalize m_s M153 (r + 7) 8 0 = M157 at md156 ⊢
  refine go_aload_n X d_Model_entry_13 rfl rfl ?_
  refine go_get (v := vi (S150 0 18)) X f_Model_140 md156.1.1 rfl d_Model_entry_14 (congrArg (s_v .boolean) ((md156.s 18).trans ((m_sk (by decide)).trans (rfl)))) ?_
  suffices hv158 : Go g 0 0 sh M157 sz 25 [(3, vl v149), (0, vr r), (1, vl x1)] [vi (if (S150 0 18) = 0 then (1 : Int) else 0)] by
    refine go_if_ne (tgt := 24) X d_Model_entry_17 rfl (rI_eq (rI_z (md156.gB 18 (by decide) (by decide))) ((m_sk (by decide)).trans (rfl))) (fun hq159 => ?_) (fun hq159 => ?_)
    · skip
      refine go_iconst (v := 0) X d_Model_entry_24 ?_
      refine go_top (v' := vi (if (S150 0 18) = 0 then (1 : Int) else 0)) X (congrArg (fun q => vi q) (show 0 = if (S150 0 18) = 0 then (1 : Int) else 0 from ((if_neg hq159)).symm)) ?_
      exact hv158
    · skip
      refine go_iconst (v := 1) X d_Model_entry_20 ?_
      refine go_goto (tgt := 25) X d_Model_entry_21 rfl ?_
      refine go_top (v' := vi (if (S150 0 18) = 0 then (1 : Int) else 0)) X (congrArg (fun q => vi q) (show 1 = if (S150 0 18) = 0 then (1 : Int) else 0 from ((if_pos hq159)).symm)) ?_
      exact hv158
  refine go_istore (lv' := [(5, vi (if (S150 0 18) = 0 then (1 : Int) else 0)), (3, vl v149), (0, vr r), (1, vl x1)]) X d_Model_entry_25 (by decide) rfl ?_
  refine go_lv (lv' := [(0, vr r), (1, vl x1), (3, vl v149), (5, vi (if (S150 0 18) = 0 then (1 : Int) else 0))]) X [2, 3, 1, 0] rfl ?_
  exact hL27 N x1 v149 (if (S150 0 18) = 0 then (1 : Int) else 0) (m_s S150 7 8 0) M157 hx1 hv155 (rI_ite (by decide) (by decide)) md156 hF152
def A_string_j80 (N : Nat) (x3 : Int) (S : s_M) : rO := chk (rI (54 + x3)) <| bnd (A_copy N 82 (54 + x3) S) fun v3 S4 => some (0, S4)
theorem A_string_j80_e (N : Nat) (x3 : Int) (S : s_M) : A_string_j80 N x3 S = (chk (rI (54 + x3)) <| bnd (A_copy N 82 (54 + x3) S) fun v3 S4 => some (0, S4)) := rfl
def A_string_j54 (N : Nat) (x1 x3 : Int) (S : s_M) : rO := if x3 < 0 then (chk (0 ≤ (S 0 11) ∧ (S 0 11) < 8) <| chk (rI ((S 0 11) + 1)) <| A_string_j80 N (S 0 11) (m_s (m_s S 9 (S 0 11) x1) 0 11 ((S 0 11) + 1))) else (A_string_j80 N x3 S)
theorem A_string_j54_e (N : Nat) (x1 x3 : Int) (S : s_M) : A_string_j54 N x1 x3 S = (if x3 < 0 then (chk (0 ≤ (S 0 11) ∧ (S 0 11) < 8) <| chk (rI ((S 0 11) + 1)) <| A_string_j80 N (S 0 11) (m_s (m_s S 9 (S 0 11) x1) 0 11 ((S 0 11) + 1))) else (A_string_j80 N x3 S)) := rfl
def A_string (N : Nat) (S : s_M) : rO := bnd (A_word N S) fun v21 S22 => bnd (A_expect N 61 S22) fun v28 S29 => bnd (A_readValue N S29) fun v35 S36 => bnd (A_expect N 125 S36) fun v42 S43 => if (S43 0 18) = 0 then (bnd (A_findString N v21 S43) fun v51 S52 => if v51 < 0 then (if (S52 0 11) = 8 then (bnd (A_warn N 5 S52) fun v64 S65 => some (0, S65)) else (A_string_j54 N v21 v51 S52)) else (A_string_j54 N v21 v51 S52)) else (some (0, S43))
theorem A_string_e (N : Nat) (S : s_M) : A_string N S = (bnd (A_word N S) fun v21 S22 => bnd (A_expect N 61 S22) fun v28 S29 => bnd (A_readValue N S29) fun v35 S36 => bnd (A_expect N 125 S36) fun v42 S43 => if (S43 0 18) = 0 then (bnd (A_findString N v21 S43) fun v51 S52 => if v51 < 0 then (if (S52 0 11) = 8 then (bnd (A_warn N 5 S52) fun v64 S65 => some (0, S65)) else (A_string_j54 N v21 v51 S52)) else (A_string_j54 N v21 v51 S52)) else (some (0, S43))) := rfl
set_option maxHeartbeats 4000000 in
set_option maxRecDepth 100000 in
theorem a_string (l : Launch) (D : va_G) {sh : s_S} {M0 M : s_M} {sz r  : Int} {N : Nat} {S S0 : s_M} {v0 : Int} (h : mq sh M0 M r S) (hF : A_string N S = some (v0, S0)) : Sp l D y_Model_string prog_14_method_31_code 4 none 7 0 0 [vr r] sh M sz (fun v' sh' M' sz' => v' = none ∧ sh' = sh ∧ sz' = sz ∧ mq sh M0 M' r S0) := by
  have hr0 := h.1.2.1
  refine Sp.ofGo (own := "CiteForgeModel") (nm := "string") (by decide) rfl rfl (Nat.le_of_ble_eq_true rfl) (lv := [(0, vr r)]) rfl ?_
  intro g X
  have hJ80 : ∀ (x3 : Int) (S1 M1 : s_M), rI x3 → mq sh M0 M1 r S1 → A_string_j80 N x3 S1 = some (v0, S0) → Go g 0 0 sh M1 sz 80 [(0, vr r), (3, vi x3)] [] := by
    intro x3 S1 M1 hx3 hm hF
    rw [A_string_j80_e] at hF
    refine go_aload_n X d_Model_string_80 rfl rfl ?_
    refine go_bipush (v := 82) X d_Model_string_81 (by decide) ?_
    refine go_bipush (v := 54) X d_Model_string_83 (by decide) ?_
    refine go_iload_n X d_Model_string_85 rfl rfl ?_
    refine go_iadd X d_Model_string_86 ?_
    obtain ⟨hc1, hF2⟩ := chk_t hF
    obtain ⟨v3, S4, hG5, hF6⟩ := bnd_t hF2
    refine go_cV (st2 := []) (r := []) X k_Model_194 (a_copy l D hm (by decide) hc1 hG5) hm.1.1 rfl rfl (by decide) (Nat.le_of_ble_eq_true rfl) d_Model_string_87 (by decide) (by decide) (fun v' sh' M7 sz' hpp => ?_)
    obtain ⟨e1, e2, e3, md8⟩ := hpp
    subst e1
    rw [e2, e3]
    clear e2 e3
    show Go g 0 0 sh M7 sz 90 [(0, vr r), (3, vi x3)] []
    exact go_vret X d_Model_string_90 rfl (by decide) (by decide) (ret_v hF6 md8)
  have hJ54 : ∀ (x1 x3 : Int) (S1 M1 : s_M), rL x1 → rI x3 → mq sh M0 M1 r S1 → A_string_j54 N x1 x3 S1 = some (v0, S0) → Go g 0 0 sh M1 sz 54 [(0, vr r), (1, vl x1), (3, vi x3)] [] := by
    intro x1 x3 S1 M1 hx1 hx3 hm hF
    rw [A_string_j54_e] at hF
    refine go_iload_n X d_Model_string_54 rfl rfl ?_
    refine go_if_ge (tgt := 80) X d_Model_string_55 rfl hx3 (fun hq10 => ?_) (fun hq10 => ?_)
    · skip
      have hF11 := if_f hF (Int.not_lt.mpr hq10)
      refine go_lv (lv' := [(0, vr r), (3, vi x3)]) X [0, 2] rfl ?_
      exact hJ80 x3 S1 M1 hx3 hm hF11
    · skip
      have hF12 := if_t hF hq10
      refine go_aload_n X d_Model_string_58 rfl rfl ?_
      refine go_get (v := vi (S1 0 11)) X f_Model_165 hm.1.1 rfl d_Model_string_59 (congrArg (s_v .int) ((hm.s 11).trans (rfl))) ?_
      refine go_istore_n (lv' := [(3, vi (S1 0 11)), (0, vr r), (1, vl x1)]) X d_Model_string_62 rfl (by decide) rfl ?_
      refine go_aload_n X d_Model_string_63 rfl rfl ?_
      refine go_get (v := vr (r + 9)) X f_Model_35 hm.1.1 rfl d_Model_string_64 (s_varr (hm.1.2.2 8 _ rfl).2 (by omega)) ?_
      refine go_iload_n X d_Model_string_67 rfl rfl ?_
      refine go_lload_n X d_Model_string_68 rfl rfl ?_
      obtain ⟨hc13, hF14⟩ := chk_t hF12
      refine go_last (x := x1) X (hm.1.2.2 8 _ rfl).1 (by decide) hc13 d_Model_string_69 ?_
      have md15 : mq sh M0 (m_s M1 (r + 9) (S1 0 11) x1) r (m_s S1 9 (S1 0 11) x1) := hm.put (by decide) ((rg_L (by decide) hx1))
      generalize m_s M1 (r + 9) (S1 0 11) x1 = M16 at md15 ⊢
      refine go_aload_n X d_Model_string_70 rfl rfl ?_
      refine go_dup X d_Model_string_71 rfl ?_
      refine go_get (v := vi (S1 0 11)) X f_Model_165 md15.1.1 rfl d_Model_string_72 (congrArg (s_v .int) ((md15.s 11).trans ((m_sk (by decide)).trans (rfl)))) ?_
      refine go_iconst (v := 1) X d_Model_string_75 ?_
      refine go_iadd X d_Model_string_76 ?_
      obtain ⟨hc17, hF18⟩ := chk_t hF14
      refine go_put (x := ((S1 0 11) + 1)) (v := vi ((S1 0 11) + 1)) X f_Model_165 md15.1.1 rfl d_Model_string_77 rfl rfl rfl ?_
      have md19 : mq sh M0 (m_s M16 r 11 ((S1 0 11) + 1)) r (m_s (m_s S1 9 (S1 0 11) x1) 0 11 ((S1 0 11) + 1)) := md15.put0 (by decide) ((rg_S (by decide) (by decide) hc17))
      generalize m_s M16 r 11 ((S1 0 11) + 1) = M20 at md19 ⊢
      refine go_lv (lv' := [(0, vr r), (3, vi (S1 0 11))]) X [1, 0] rfl ?_
      exact hJ80 (S1 0 11) (m_s (m_s S1 9 (S1 0 11) x1) 0 11 ((S1 0 11) + 1)) M20 (hm.gS 11 (by decide) (by decide)) md19 hF18
  rw [A_string_e] at hF
  refine go_aload_n X d_Model_string_0 rfl rfl ?_
  obtain ⟨v21, S22, hG23, hF24⟩ := bnd_t hF
  refine go_cV (st2 := []) (r := []) X k_Model_177 (a_word l D h hG23) h.1.1 rfl rfl (by decide) (Nat.le_of_ble_eq_true rfl) d_Model_string_1 (by decide) (by decide) (fun v' sh' M25 sz' hpp => ?_)
  obtain ⟨e1, e2, e3, hv27, md26⟩ := hpp
  subst e1
  rw [e2, e3]
  clear e2 e3
  show Go g 0 0 sh M25 sz 4 [(0, vr r)] [vl v21]
  refine go_lstore_n (lv' := [(1, vl v21), (0, vr r)]) X d_Model_string_4 rfl (by decide) rfl ?_
  refine go_aload_n X d_Model_string_5 rfl rfl ?_
  refine go_bipush (v := 61) X d_Model_string_6 (by decide) ?_
  obtain ⟨v28, S29, hG30, hF31⟩ := bnd_t hF24
  refine go_cV (st2 := []) (r := []) X k_Model_188 (a_expect l D md26 (by decide) hG30) md26.1.1 rfl rfl (by decide) (Nat.le_of_ble_eq_true rfl) d_Model_string_8 (by decide) (by decide) (fun v' sh' M32 sz' hpp => ?_)
  obtain ⟨e1, e2, e3, md33⟩ := hpp
  subst e1
  rw [e2, e3]
  clear e2 e3
  show Go g 0 0 sh M32 sz 11 [(1, vl v21), (0, vr r)] []
  refine go_aload_n X d_Model_string_11 rfl rfl ?_
  obtain ⟨v35, S36, hG37, hF38⟩ := bnd_t hF31
  refine go_cV (st2 := []) (r := []) X k_Model_191 (a_readValue l D md33 hG37) md33.1.1 rfl rfl (by decide) (Nat.le_of_ble_eq_true rfl) d_Model_string_12 (by decide) (by decide) (fun v' sh' M39 sz' hpp => ?_)
  obtain ⟨e1, e2, e3, md40⟩ := hpp
  subst e1
  rw [e2, e3]
  clear e2 e3
  show Go g 0 0 sh M39 sz 15 [(1, vl v21), (0, vr r)] []
  refine go_aload_n X d_Model_string_15 rfl rfl ?_
  refine go_bipush (v := 125) X d_Model_string_16 (by decide) ?_
  obtain ⟨v42, S43, hG44, hF45⟩ := bnd_t hF38
  refine go_cV (st2 := []) (r := []) X k_Model_188 (a_expect l D md40 (by decide) hG44) md40.1.1 rfl rfl (by decide) (Nat.le_of_ble_eq_true rfl) d_Model_string_18 (by decide) (by decide) (fun v' sh' M46 sz' hpp => ?_)
  obtain ⟨e1, e2, e3, md47⟩ := hpp
  subst e1
  rw [e2, e3]
  clear e2 e3
  show Go g 0 0 sh M46 sz 21 [(1, vl v21), (0, vr r)] []
  refine go_aload_n X d_Model_string_21 rfl rfl ?_
  refine go_get (v := vi (S43 0 18)) X f_Model_140 md47.1.1 rfl d_Model_string_22 (congrArg (s_v .boolean) ((md47.s 18).trans (rfl))) ?_
  refine go_if_eq (tgt := 29) X d_Model_string_25 rfl (rI_z (md47.gB 18 (by decide) (by decide))) (fun hq49 => ?_) (fun hq49 => ?_)
  · skip
    have hF50 := if_t hF45 hq49
    refine go_aload_n X d_Model_string_29 rfl rfl ?_
    refine go_lload_n X d_Model_string_30 rfl rfl ?_
    obtain ⟨v51, S52, hG53, hF54⟩ := bnd_t hF50
    refine go_cV (st2 := []) (r := []) X k_Model_181 (a_findString l D md47 hv27 hG53) md47.1.1 rfl rfl (by decide) (Nat.le_of_ble_eq_true rfl) d_Model_string_31 (by decide) (by decide) (fun v' sh' M55 sz' hpp => ?_)
    obtain ⟨e1, e2, e3, hv57, md56⟩ := hpp
    subst e1
    rw [e2, e3]
    clear e2 e3
    show Go g 0 0 sh M55 sz 34 [(1, vl v21), (0, vr r)] [vi v51]
    refine go_istore_n (lv' := [(3, vi v51), (1, vl v21), (0, vr r)]) X d_Model_string_34 rfl (by decide) rfl ?_
    refine go_iload_n X d_Model_string_35 rfl rfl ?_
    refine go_if_ge (tgt := 54) X d_Model_string_36 rfl hv57 (fun hq58 => ?_) (fun hq58 => ?_)
    · skip
      have hF59 := if_f hF54 (Int.not_lt.mpr hq58)
      refine go_lv (lv' := [(0, vr r), (1, vl v21), (3, vi v51)]) X [2, 1, 0] rfl ?_
      exact hJ54 v21 v51 S52 M55 hv27 hv57 md56 hF59
    · skip
      have hF60 := if_t hF54 hq58
      refine go_aload_n X d_Model_string_39 rfl rfl ?_
      refine go_get (v := vi (S52 0 11)) X f_Model_165 md56.1.1 rfl d_Model_string_40 (congrArg (s_v .int) ((md56.s 11).trans (rfl))) ?_
      refine go_bipush (v := 8) X d_Model_string_43 (by decide) ?_
      refine go_icmp_ne (tgt := 54) X d_Model_string_45 rfl (md56.gS 11 (by decide) (by decide)) (by decide) (fun hq61 => ?_) (fun hq61 => ?_)
      · skip
        have hF62 := if_f hF60 hq61
        refine go_lv (lv' := [(0, vr r), (1, vl v21), (3, vi v51)]) X [2, 1, 0] rfl ?_
        exact hJ54 v21 v51 S52 M55 hv27 hv57 md56 hF62
      · skip
        have hF63 := if_t hF60 hq61
        refine go_aload_n X d_Model_string_48 rfl rfl ?_
        refine go_iconst (v := 5) X d_Model_string_49 ?_
        obtain ⟨v64, S65, hG66, hF67⟩ := bnd_t hF63
        refine go_cV (st2 := []) (r := []) X k_Model_144 (a_warn l D md56 (by decide) hG66) md56.1.1 rfl rfl (by decide) (Nat.le_of_ble_eq_true rfl) d_Model_string_50 (by decide) (by decide) (fun v' sh' M68 sz' hpp => ?_)
        obtain ⟨e1, e2, e3, md69⟩ := hpp
        subst e1
        rw [e2, e3]
        clear e2 e3
        show Go g 0 0 sh M68 sz 53 [(3, vi v51), (1, vl v21), (0, vr r)] []
        exact go_vret X d_Model_string_53 rfl (by decide) (by decide) (ret_v hF67 md69)
  · skip
    have hF71 := if_f hF45 hq49
    exact go_vret X d_Model_string_28 rfl (by decide) (by decide) (ret_v hF71 md47)
def A_read_j145 (N : Nat) (S : s_M) : rO := some (S 0 6, S)
theorem A_read_j145_e (N : Nat) (S : s_M) : A_read_j145 N S = (some (S 0 6, S)) := rfl
def A_read_j142 (N : Nat) (k30 : s_M → rO) (S : s_M) : rO := k30  S
theorem A_read_j142_e (N : Nat) (k30 : s_M → rO) (S : s_M) : A_read_j142 N k30 S = (k30  S) := rfl
def A_read_j122 (N : Nat) (k30 : s_M → rO) (x2 : Int) (S : s_M) : rO := if (S 0 18) = 0 then (if x2 = 32772479205076835 then (A_read_j142 N k30  S) else (bnd (A_entry N x2 S) fun v7 S8 => A_read_j142 N k30  S8)) else (A_read_j142 N k30  S)
theorem A_read_j122_e (N : Nat) (k30 : s_M → rO) (x2 : Int) (S : s_M) : A_read_j122 N k30 x2 S = (if (S 0 18) = 0 then (if x2 = 32772479205076835 then (A_read_j142 N k30  S) else (bnd (A_entry N x2 S) fun v7 S8 => A_read_j142 N k30  S8)) else (A_read_j142 N k30  S)) := rfl
def A_read_l30 (N : Nat) : Nat → s_M → rO
  | 0, _ => none
  | n + 1, S => if (S 0 17) < (S 0 2) then (if (S 0 21) < 8 then (chk (0 ≤ (S 0 17) ∧ (S 0 17) < 320) <| chk (rI ((S 0 17) + 1)) <| if (if (S 2 (S 0 17)) = 64 then (1 : Int) else 0) = 0 then (A_read_j142 N (A_read_l30 N n)  (m_s S 0 17 ((S 0 17) + 1))) else (bnd (A_word N (m_s (m_s S 0 17 ((S 0 17) + 1)) 0 18 0)) fun v33 S34 => bnd (A_expect N 123 S34) fun v40 S41 => if (S41 0 18) = 0 then (if v33 = 113723913172083 then (bnd (A_string N S41) fun v53 S54 => A_read_j142 N (A_read_l30 N n)  S54) else (A_read_j122 N (A_read_l30 N n) v33 S41)) else (A_read_j122 N (A_read_l30 N n) v33 S41))) else (A_read_j145 N  S)) else (A_read_j145 N  S)
theorem A_read_l30_e (N : Nat) (n : Nat) (S : s_M) : A_read_l30 N (n + 1) S = (if (S 0 17) < (S 0 2) then (if (S 0 21) < 8 then (chk (0 ≤ (S 0 17) ∧ (S 0 17) < 320) <| chk (rI ((S 0 17) + 1)) <| if (if (S 2 (S 0 17)) = 64 then (1 : Int) else 0) = 0 then (A_read_j142 N (A_read_l30 N n)  (m_s S 0 17 ((S 0 17) + 1))) else (bnd (A_word N (m_s (m_s S 0 17 ((S 0 17) + 1)) 0 18 0)) fun v33 S34 => bnd (A_expect N 123 S34) fun v40 S41 => if (S41 0 18) = 0 then (if v33 = 113723913172083 then (bnd (A_string N S41) fun v53 S54 => A_read_j142 N (A_read_l30 N n)  S54) else (A_read_j122 N (A_read_l30 N n) v33 S41)) else (A_read_j122 N (A_read_l30 N n) v33 S41))) else (A_read_j145 N  S)) else (A_read_j145 N  S)) := rfl
def A_read (N : Nat) (S : s_M) : rO := A_read_l30 N N  (m_s (m_s (m_s (m_s (m_s (m_s S 0 0 0) 0 6 0) 0 11 0) 0 15 0) 0 17 0) 0 21 0)
theorem A_read_e (N : Nat) (S : s_M) : A_read N S = (A_read_l30 N N  (m_s (m_s (m_s (m_s (m_s (m_s S 0 0 0) 0 6 0) 0 11 0) 0 15 0) 0 17 0) 0 21 0)) := rfl
set_option maxHeartbeats 4000000 in
set_option maxRecDepth 100000 in
theorem a_read (l : Launch) (D : va_G) {sh : s_S} {M0 M : s_M} {sz r  : Int} {N : Nat} {S S0 : s_M} {v0 : Int} (h : mq sh M0 M r S) (hF : A_read N S = some (v0, S0)) : Sp l D y_Model_read prog_14_method_36_code 4 (some .int) 9 0 0 [vr r] sh M sz (fun v' sh' M' sz' => v' = some (vi v0) ∧ sh' = sh ∧ sz' = sz ∧ rI v0 ∧ mq sh M0 M' r S0) := by
  have hr0 := h.1.2.1
  refine Sp.ofGo (own := "CiteForgeModel") (nm := "read") (by decide) rfl rfl (Nat.le_of_ble_eq_true rfl) (lv := [(0, vr r)]) rfl ?_
  intro g X
  have hJ145 : ∀ (S1 M1 : s_M), mq sh M0 M1 r S1 → A_read_j145 N S1 = some (v0, S0) → Go g 0 0 sh M1 sz 145 [(0, vr r)] [] := by
    intro S1 M1 hm hF
    rw [A_read_j145_e] at hF
    refine go_aload_n X d_Model_read_145 rfl rfl ?_
    refine go_get (v := vi (S1 0 6)) X f_Model_201 hm.1.1 rfl d_Model_read_146 (congrArg (s_v .int) ((hm.s 6).trans (rfl))) ?_
    exact go_iret X d_Model_read_149 rfl rfl (by decide) (by decide) (ret_i hF (hm.gS 6 (by decide) (by decide)) hm)
  have hL30 : ∀ (n30 : Nat) (S1 M1 : s_M), mq sh M0 M1 r S1 → A_read_l30 N n30 S1 = some (v0, S0) → Go g 0 0 sh M1 sz 30 [(0, vr r)] [] := by
    intro n30
    induction n30 with
    | zero => intro S1 M1 hm hF; cases hF
    | succ n30 ih30 =>
      have hJ142 : ∀ (S1 M1 : s_M), mq sh M0 M1 r S1 → A_read_j142 N (A_read_l30 N n30) S1 = some (v0, S0) → Go g 0 0 sh M1 sz 142 [(0, vr r)] [] := by
        intro S1 M1 hm hF
        rw [A_read_j142_e] at hF
        refine go_goto (tgt := 30) X d_Model_read_142 rfl ?_
        refine go_lv (lv' := [(0, vr r)]) X [0] rfl ?_
        exact ih30  S1 M1  hm hF
      have hJ122 : ∀ (x2 : Int) (S1 M1 : s_M), rL x2 → mq sh M0 M1 r S1 → A_read_j122 N (A_read_l30 N n30) x2 S1 = some (v0, S0) → Go g 0 0 sh M1 sz 122 [(0, vr r), (2, vl x2)] [] := by
        intro x2 S1 M1 hx2 hm hF
        rw [A_read_j122_e] at hF
        refine go_aload_n X d_Model_read_122 rfl rfl ?_
        refine go_get (v := vi (S1 0 18)) X f_Model_140 hm.1.1 rfl d_Model_read_123 (congrArg (s_v .boolean) ((hm.s 18).trans (rfl))) ?_
        refine go_if_ne (tgt := 142) X d_Model_read_126 rfl (rI_z (hm.gB 18 (by decide) (by decide))) (fun hq1 => ?_) (fun hq1 => ?_)
        · skip
          have hF2 := if_f hF hq1
          refine go_lv (lv' := [(0, vr r)]) X [0] rfl ?_
          exact hJ142  S1 M1  hm hF2
        · skip
          have hF3 := if_t hF hq1
          refine go_lload_n X d_Model_read_129 rfl rfl ?_
          refine go_ldc2 (x := 32772479205076835) X w_kl_Model_218 (by decide) d_Model_read_130 ?_
          refine go_lcmp X hx2 (by decide) d_Model_read_133 ?_
          refine go_if_eq (tgt := 142) X d_Model_read_134 rfl (rI_cmp _ _) (fun hq4 => ?_) (fun hq4 => ?_)
          · skip
            have hF5 := if_t hF3 (s_cmp0 hq4)
            refine go_lv (lv' := [(0, vr r)]) X [0] rfl ?_
            exact hJ142  S1 M1  hm hF5
          · skip
            have hF6 := if_f hF3 (sc_ne hq4)
            refine go_aload_n X d_Model_read_137 rfl rfl ?_
            refine go_lload_n X d_Model_read_138 rfl rfl ?_
            obtain ⟨v7, S8, hG9, hF10⟩ := bnd_t hF6
            refine go_cV (st2 := []) (r := []) X k_Model_220 (a_entry l D hm hx2 hG9) hm.1.1 rfl rfl (by decide) (Nat.le_of_ble_eq_true rfl) d_Model_read_139 (by decide) (by decide) (fun v' sh' M11 sz' hpp => ?_)
            obtain ⟨e1, e2, e3, md12⟩ := hpp
            subst e1
            rw [e2, e3]
            clear e2 e3
            show Go g 0 0 sh M11 sz 142 [(0, vr r), (2, vl x2)] []
            refine go_lv (lv' := [(0, vr r)]) X [0] rfl ?_
            exact hJ142  S8 M11  md12 hF10
      intro S1 M1 hm hF
      rw [A_read_l30_e] at hF
      refine go_aload_n X d_Model_read_30 rfl rfl ?_
      refine go_get (v := vi (S1 0 17)) X f_Model_134 hm.1.1 rfl d_Model_read_31 (congrArg (s_v .int) ((hm.s 17).trans (rfl))) ?_
      refine go_aload_n X d_Model_read_34 rfl rfl ?_
      refine go_get (v := vi (S1 0 2)) X f_Model_131 hm.1.1 rfl d_Model_read_35 (congrArg (s_v .int) ((hm.s 2).trans (rfl))) ?_
      refine go_icmp_ge (tgt := 145) X d_Model_read_38 rfl (hm.gS 17 (by decide) (by decide)) (hm.gS 2 (by decide) (by decide)) (fun hq14 => ?_) (fun hq14 => ?_)
      · skip
        have hF15 := if_f hF (Int.not_lt.mpr hq14)
        refine go_lv (lv' := [(0, vr r)]) X [0] rfl ?_
        exact hJ145  S1 M1  hm hF15
      · skip
        have hF16 := if_t hF hq14
        refine go_aload_n X d_Model_read_41 rfl rfl ?_
        refine go_get (v := vi (S1 0 21)) X f_Model_147 hm.1.1 rfl d_Model_read_42 (congrArg (s_v .int) ((hm.s 21).trans (rfl))) ?_
        refine go_bipush (v := 8) X d_Model_read_45 (by decide) ?_
        refine go_icmp_ge (tgt := 145) X d_Model_read_47 rfl (hm.gS 21 (by decide) (by decide)) (by decide) (fun hq17 => ?_) (fun hq17 => ?_)
        · skip
          have hF18 := if_f hF16 (Int.not_lt.mpr hq17)
          refine go_lv (lv' := [(0, vr r)]) X [0] rfl ?_
          exact hJ145  S1 M1  hm hF18
        · skip
          have hF19 := if_t hF16 hq17
          refine go_aload_n X d_Model_read_50 rfl rfl ?_
          refine go_get (v := vr (r + 2)) X f_Model_13 hm.1.1 rfl d_Model_read_51 (s_varr (hm.1.2.2 1 _ rfl).2 (by omega)) ?_
          refine go_aload_n X d_Model_read_54 rfl rfl ?_
          refine go_get (v := vi (S1 0 17)) X f_Model_134 hm.1.1 rfl d_Model_read_55 (congrArg (s_v .int) ((hm.s 17).trans (rfl))) ?_
          obtain ⟨hc20, hF21⟩ := chk_t hF19
          refine go_iald X (hm.1.2.2 1 _ rfl).1 (by decide) hc20 d_Model_read_58 ?_
          refine go_top (v' := vi (S1 2 (S1 0 17))) X (congrArg (fun q => vi q) ((hm.a (by decide) (S1 0 17)).trans (rfl))) ?_
          refine go_bipush (v := 64) X d_Model_read_59 (by decide) ?_
          suffices hv22 : Go g 0 0 sh M1 sz 69 [(0, vr r)] [vi (if (S1 2 (S1 0 17)) = 64 then (1 : Int) else 0)] by
            refine go_icmp_ne (tgt := 68) X d_Model_read_61 rfl (hm.gA (by decide) (S1 0 17)) (by decide) (fun hq23 => ?_) (fun hq23 => ?_)
            · skip
              refine go_iconst (v := 0) X d_Model_read_68 ?_
              refine go_top (v' := vi (if (S1 2 (S1 0 17)) = 64 then (1 : Int) else 0)) X (congrArg (fun q => vi q) (show 0 = if (S1 2 (S1 0 17)) = 64 then (1 : Int) else 0 from ((if_neg hq23)).symm)) ?_
              exact hv22
            · skip
              refine go_iconst (v := 1) X d_Model_read_64 ?_
              refine go_goto (tgt := 69) X d_Model_read_65 rfl ?_
              refine go_top (v' := vi (if (S1 2 (S1 0 17)) = 64 then (1 : Int) else 0)) X (congrArg (fun q => vi q) (show 1 = if (S1 2 (S1 0 17)) = 64 then (1 : Int) else 0 from ((if_pos hq23)).symm)) ?_
              exact hv22
          refine go_istore_n (lv' := [(1, vi (if (S1 2 (S1 0 17)) = 64 then (1 : Int) else 0)), (0, vr r)]) X d_Model_read_69 rfl (by decide) rfl ?_
          refine go_aload_n X d_Model_read_70 rfl rfl ?_
          refine go_dup X d_Model_read_71 rfl ?_
          refine go_get (v := vi (S1 0 17)) X f_Model_134 hm.1.1 rfl d_Model_read_72 (congrArg (s_v .int) ((hm.s 17).trans (rfl))) ?_
          refine go_iconst (v := 1) X d_Model_read_75 ?_
          refine go_iadd X d_Model_read_76 ?_
          obtain ⟨hc24, hF25⟩ := chk_t hF21
          refine go_put (x := ((S1 0 17) + 1)) (v := vi ((S1 0 17) + 1)) X f_Model_134 hm.1.1 rfl d_Model_read_77 rfl rfl rfl ?_
          have md26 : mq sh M0 (m_s M1 r 17 ((S1 0 17) + 1)) r (m_s S1 0 17 ((S1 0 17) + 1)) := hm.put0 (by decide) ((rg_S (by decide) (by decide) hc24))
          generalize m_s M1 r 17 ((S1 0 17) + 1) = M27 at md26 ⊢
          refine go_iload_n X d_Model_read_80 rfl rfl ?_
          refine go_if_eq (tgt := 142) X d_Model_read_81 rfl (rI_ite (by decide) (by decide)) (fun hq28 => ?_) (fun hq28 => ?_)
          · skip
            have hF29 := if_t hF25 hq28
            refine go_lv (lv' := [(0, vr r)]) X [1] rfl ?_
            exact hJ142  (m_s S1 0 17 ((S1 0 17) + 1)) M27  md26 hF29
          · skip
            have hF30 := if_f hF25 hq28
            refine go_aload_n X d_Model_read_84 rfl rfl ?_
            refine go_iconst (v := 0) X d_Model_read_85 ?_
            refine go_put (x := 0) (v := vi 0) X f_Model_140 md26.1.1 rfl d_Model_read_86 rfl (n_nz (by decide)) (n_fz (by decide)) ?_
            have md31 : mq sh M0 (m_s M27 r 18 0) r (m_s (m_s S1 0 17 ((S1 0 17) + 1)) 0 18 0) := md26.put0 (by decide) ((rg_B (by decide) (by decide) (by decide)))
            generalize m_s M27 r 18 0 = M32 at md31 ⊢
            refine go_aload_n X d_Model_read_89 rfl rfl ?_
            obtain ⟨v33, S34, hG35, hF36⟩ := bnd_t hF30
            refine go_cV (st2 := []) (r := []) X k_Model_177 (a_word l D md31 hG35) md31.1.1 rfl rfl (by decide) (Nat.le_of_ble_eq_true rfl) d_Model_read_90 (by decide) (by decide) (fun v' sh' M37 sz' hpp => ?_)
            obtain ⟨e1, e2, e3, hv39, md38⟩ := hpp
            subst e1
            rw [e2, e3]
            clear e2 e3
            show Go g 0 0 sh M37 sz 93 [(1, vi (if (S1 2 (S1 0 17)) = 64 then (1 : Int) else 0)), (0, vr r)] [vl v33]
            refine go_lstore_n (lv' := [(2, vl v33), (1, vi (if (S1 2 (S1 0 17)) = 64 then (1 : Int) else 0)), (0, vr r)]) X d_Model_read_93 rfl (by decide) rfl ?_
            refine go_aload_n X d_Model_read_94 rfl rfl ?_
            refine go_bipush (v := 123) X d_Model_read_95 (by decide) ?_
            obtain ⟨v40, S41, hG42, hF43⟩ := bnd_t hF36
            refine go_cV (st2 := []) (r := []) X k_Model_188 (a_expect l D md38 (by decide) hG42) md38.1.1 rfl rfl (by decide) (Nat.le_of_ble_eq_true rfl) d_Model_read_97 (by decide) (by decide) (fun v' sh' M44 sz' hpp => ?_)
            obtain ⟨e1, e2, e3, md45⟩ := hpp
            subst e1
            rw [e2, e3]
            clear e2 e3
            show Go g 0 0 sh M44 sz 100 [(2, vl v33), (1, vi (if (S1 2 (S1 0 17)) = 64 then (1 : Int) else 0)), (0, vr r)] []
            refine go_aload_n X d_Model_read_100 rfl rfl ?_
            refine go_get (v := vi (S41 0 18)) X f_Model_140 md45.1.1 rfl d_Model_read_101 (congrArg (s_v .boolean) ((md45.s 18).trans (rfl))) ?_
            refine go_if_ne (tgt := 122) X d_Model_read_104 rfl (rI_z (md45.gB 18 (by decide) (by decide))) (fun hq47 => ?_) (fun hq47 => ?_)
            · skip
              have hF48 := if_f hF43 hq47
              refine go_lv (lv' := [(0, vr r), (2, vl v33)]) X [2, 0] rfl ?_
              exact hJ122 v33 S41 M44 hv39 md45 hF48
            · skip
              have hF49 := if_t hF43 hq47
              refine go_lload_n X d_Model_read_107 rfl rfl ?_
              refine go_ldc2 (x := 113723913172083) X w_kl_Model_213 (by decide) d_Model_read_108 ?_
              refine go_lcmp X hv39 (by decide) d_Model_read_111 ?_
              refine go_if_ne (tgt := 122) X d_Model_read_112 rfl (rI_cmp _ _) (fun hq50 => ?_) (fun hq50 => ?_)
              · skip
                have hF51 := if_f hF49 (sc_ne hq50)
                refine go_lv (lv' := [(0, vr r), (2, vl v33)]) X [2, 0] rfl ?_
                exact hJ122 v33 S41 M44 hv39 md45 hF51
              · skip
                have hF52 := if_t hF49 (s_cmp0 hq50)
                refine go_aload_n X d_Model_read_115 rfl rfl ?_
                obtain ⟨v53, S54, hG55, hF56⟩ := bnd_t hF52
                refine go_cV (st2 := []) (r := []) X k_Model_215 (a_string l D md45 hG55) md45.1.1 rfl rfl (by decide) (Nat.le_of_ble_eq_true rfl) d_Model_read_116 (by decide) (by decide) (fun v' sh' M57 sz' hpp => ?_)
                obtain ⟨e1, e2, e3, md58⟩ := hpp
                subst e1
                rw [e2, e3]
                clear e2 e3
                show Go g 0 0 sh M57 sz 119 [(2, vl v33), (1, vi (if (S1 2 (S1 0 17)) = 64 then (1 : Int) else 0)), (0, vr r)] []
                refine go_goto (tgt := 142) X d_Model_read_119 rfl ?_
                refine go_lv (lv' := [(0, vr r)]) X [2] rfl ?_
                exact hJ142  S54 M57  md58 hF56
  rw [A_read_e] at hF
  refine go_aload_n X d_Model_read_0 rfl rfl ?_
  refine go_iconst (v := 0) X d_Model_read_1 ?_
  refine go_put (x := 0) (v := vi 0) X f_Model_95 h.1.1 rfl d_Model_read_2 rfl rfl rfl ?_
  have md60 : mq sh M0 (m_s M r 0 0) r (m_s S 0 0 0) := h.put0 (by decide) ((rg_S (by decide) (by decide) (by decide)))
  generalize m_s M r 0 0 = M61 at md60 ⊢
  refine go_aload_n X d_Model_read_5 rfl rfl ?_
  refine go_iconst (v := 0) X d_Model_read_6 ?_
  refine go_put (x := 0) (v := vi 0) X f_Model_201 md60.1.1 rfl d_Model_read_7 rfl rfl rfl ?_
  have md62 : mq sh M0 (m_s M61 r 6 0) r (m_s (m_s S 0 0 0) 0 6 0) := md60.put0 (by decide) ((rg_S (by decide) (by decide) (by decide)))
  generalize m_s M61 r 6 0 = M63 at md62 ⊢
  refine go_aload_n X d_Model_read_10 rfl rfl ?_
  refine go_iconst (v := 0) X d_Model_read_11 ?_
  refine go_put (x := 0) (v := vi 0) X f_Model_165 md62.1.1 rfl d_Model_read_12 rfl rfl rfl ?_
  have md64 : mq sh M0 (m_s M63 r 11 0) r (m_s (m_s (m_s S 0 0 0) 0 6 0) 0 11 0) := md62.put0 (by decide) ((rg_S (by decide) (by decide) (by decide)))
  generalize m_s M63 r 11 0 = M65 at md64 ⊢
  refine go_aload_n X d_Model_read_15 rfl rfl ?_
  refine go_iconst (v := 0) X d_Model_read_16 ?_
  refine go_put (x := 0) (v := vi 0) X f_Model_210 md64.1.1 rfl d_Model_read_17 rfl rfl rfl ?_
  have md66 : mq sh M0 (m_s M65 r 15 0) r (m_s (m_s (m_s (m_s S 0 0 0) 0 6 0) 0 11 0) 0 15 0) := md64.put0 (by decide) ((rg_S (by decide) (by decide) (by decide)))
  generalize m_s M65 r 15 0 = M67 at md66 ⊢
  refine go_aload_n X d_Model_read_20 rfl rfl ?_
  refine go_iconst (v := 0) X d_Model_read_21 ?_
  refine go_put (x := 0) (v := vi 0) X f_Model_134 md66.1.1 rfl d_Model_read_22 rfl rfl rfl ?_
  have md68 : mq sh M0 (m_s M67 r 17 0) r (m_s (m_s (m_s (m_s (m_s S 0 0 0) 0 6 0) 0 11 0) 0 15 0) 0 17 0) := md66.put0 (by decide) ((rg_S (by decide) (by decide) (by decide)))
  generalize m_s M67 r 17 0 = M69 at md68 ⊢
  refine go_aload_n X d_Model_read_25 rfl rfl ?_
  refine go_iconst (v := 0) X d_Model_read_26 ?_
  refine go_put (x := 0) (v := vi 0) X f_Model_147 md68.1.1 rfl d_Model_read_27 rfl rfl rfl ?_
  have md70 : mq sh M0 (m_s M69 r 21 0) r (m_s (m_s (m_s (m_s (m_s (m_s S 0 0 0) 0 6 0) 0 11 0) 0 15 0) 0 17 0) 0 21 0) := md68.put0 (by decide) ((rg_S (by decide) (by decide) (by decide)))
  generalize m_s M69 r 21 0 = M71 at md70 ⊢
  refine go_lv (lv' := [(0, vr r)]) X [0] rfl ?_
  exact hL30 N  (m_s (m_s (m_s (m_s (m_s (m_s S 0 0 0) 0 6 0) 0 11 0) 0 15 0) 0 17 0) 0 21 0) M71  md70 hF
def A_cite_l120 (N : Nat) : Nat → Int → Int → s_M → rO
  | 0, _, _, _ => none
  | n + 1, x3, x7, S => if x7 < (S 0 13) then (chk (0 ≤ x7 ∧ x7 < 10) <| if (S 10 x7) = x3 then (some (0, S)) else (chk (rI (x7 + 1)) <| (A_cite_l120 N n) x3 (x7 + 1) S)) else (if (S 0 13) = 10 then (bnd (A_fail N 2 S) fun v14 S15 => some (if 0 < v14 then (1 : Int) else 0, S15)) else (chk (0 ≤ (S 0 13) ∧ (S 0 13) < 10) <| chk (rI ((S 0 13) + 1)) <| some (1, m_s (m_s S 10 (S 0 13) x3) 0 13 ((S 0 13) + 1))))
theorem A_cite_l120_e (N : Nat) (n : Nat) (x3 x7 : Int) (S : s_M) : A_cite_l120 N (n + 1) x3 x7 S = (if x7 < (S 0 13) then (chk (0 ≤ x7 ∧ x7 < 10) <| if (S 10 x7) = x3 then (some (0, S)) else (chk (rI (x7 + 1)) <| (A_cite_l120 N n) x3 (x7 + 1) S)) else (if (S 0 13) = 10 then (bnd (A_fail N 2 S) fun v14 S15 => some (if 0 < v14 then (1 : Int) else 0, S15)) else (chk (0 ≤ (S 0 13) ∧ (S 0 13) < 10) <| chk (rI ((S 0 13) + 1)) <| some (1, m_s (m_s S 10 (S 0 13) x3) 0 13 ((S 0 13) + 1))))) := rfl
def A_cite_j98 (N : Nat) (x3 x5 : Int) (S : s_M) : rO := if x5 = 0 then (bnd (A_fail N 1 S) fun v34 S35 => some (if 0 < v34 then (1 : Int) else 0, S35)) else (A_cite_l120 N N x3 0 S)
theorem A_cite_j98_e (N : Nat) (x3 x5 : Int) (S : s_M) : A_cite_j98 N x3 x5 S = (if x5 = 0 then (bnd (A_fail N 1 S) fun v34 S35 => some (if 0 < v34 then (1 : Int) else 0, S35)) else (A_cite_l120 N N x3 0 S)) := rfl
def A_cite_l29 (N : Nat) : Nat → Int → Int → Int → Int → s_M → rO
  | 0, _, _, _, _, _ => none
  | n + 1, x3, x5, x6, x7, S => if x7 < 8 then (if x6 = 0 then (A_cite_j98 N x3 x5 S) else (chk (rI (8 * x7)) <| chk (rI (x7 + 1)) <| (A_cite_l29 N n) x3 (if x5 = 0 then (0 : Int) else (if (if (wi32 (l_and (s_sar x3 (8 * x7)) 255)) = 0 then (0 : Int) else 1) = 0 then (1 : Int) else (if (p_wc (wi32 (l_and (s_sar x3 (8 * x7)) 255))) = true then (1 : Int) else 0))) (if (wi32 (l_and (s_sar x3 (8 * x7)) 255)) = 0 then (0 : Int) else 1) (x7 + 1) S)) else (A_cite_j98 N x3 x5 S)
theorem A_cite_l29_e (N : Nat) (n : Nat) (x3 x5 x6 x7 : Int) (S : s_M) : A_cite_l29 N (n + 1) x3 x5 x6 x7 S = (if x7 < 8 then (if x6 = 0 then (A_cite_j98 N x3 x5 S) else (chk (rI (8 * x7)) <| chk (rI (x7 + 1)) <| (A_cite_l29 N n) x3 (if x5 = 0 then (0 : Int) else (if (if (wi32 (l_and (s_sar x3 (8 * x7)) 255)) = 0 then (0 : Int) else 1) = 0 then (1 : Int) else (if (p_wc (wi32 (l_and (s_sar x3 (8 * x7)) 255))) = true then (1 : Int) else 0))) (if (wi32 (l_and (s_sar x3 (8 * x7)) 255)) = 0 then (0 : Int) else 1) (x7 + 1) S)) else (A_cite_j98 N x3 x5 S)) := rfl
def A_cite (N : Nat) (x1 : Int) (S : s_M) : rO := chk (rL (mwof (u64 x1))) <| A_cite_l29 N N (mwof (u64 x1)) (if (mwof (u64 x1)) = 0 then (0 : Int) else 1) 1 0 (m_s S 0 0 0)
theorem A_cite_e (N : Nat) (x1 : Int) (S : s_M) : A_cite N x1 S = (chk (rL (mwof (u64 x1))) <| A_cite_l29 N N (mwof (u64 x1)) (if (mwof (u64 x1)) = 0 then (0 : Int) else 1) 1 0 (m_s S 0 0 0)) := rfl
set_option maxHeartbeats 4000000 in
set_option maxRecDepth 100000 in
theorem a_cite (l : Launch) (D : va_G) {sh : s_S} {M0 M : s_M} {sz r x1 : Int} {N : Nat} {S S0 : s_M} {v0 : Int} (h : mq sh M0 M r S) (hx1 : rL x1) (hF : A_cite N x1 S = some (v0, S0)) : Sp l D y_Model_cite prog_14_method_37_code 9 (some .boolean) 4 0 0 [vr r, vl x1] sh M sz (fun v' sh' M' sz' => v' = some (vi v0) ∧ sh' = sh ∧ sz' = sz ∧ rI v0 ∧ mq sh M0 M' r S0) := by
  have hr0 := h.1.2.1
  refine Sp.ofGo (own := "CiteForgeModel") (nm := "cite") (by decide) rfl rfl (Nat.le_of_ble_eq_true rfl) (lv := [(0, vr r), (1, vl x1)]) rfl ?_
  intro g X
  have hL120 : ∀ (n120 : Nat) (x3 x7 : Int) (S1 M1 : s_M), rL x3 → rI x7 → mq sh M0 M1 r S1 → A_cite_l120 N n120 x3 x7 S1 = some (v0, S0) → Go g 0 0 sh M1 sz 120 [(0, vr r), (3, vl x3), (7, vi x7)] [] := by
    intro n120
    induction n120 with
    | zero => intro x3 x7 S1 M1 hx3 hx7 hm hF; cases hF
    | succ n120 ih120 =>
      intro x3 x7 S1 M1 hx3 hx7 hm hF
      rw [A_cite_l120_e] at hF
      refine go_iload X d_Model_cite_120 rfl ?_
      refine go_aload_n X d_Model_cite_122 rfl rfl ?_
      refine go_get (v := vi (S1 0 13)) X f_Model_228 hm.1.1 rfl d_Model_cite_123 (congrArg (s_v .int) ((hm.s 13).trans (rfl))) ?_
      refine go_icmp_ge (tgt := 149) X d_Model_cite_126 rfl hx7 (hm.gS 13 (by decide) (by decide)) (fun hq1 => ?_) (fun hq1 => ?_)
      · skip
        have hF2 := if_f hF (Int.not_lt.mpr hq1)
        refine go_aload_n X d_Model_cite_149 rfl rfl ?_
        refine go_get (v := vi (S1 0 13)) X f_Model_228 hm.1.1 rfl d_Model_cite_150 (congrArg (s_v .int) ((hm.s 13).trans (rfl))) ?_
        refine go_bipush (v := 10) X d_Model_cite_153 (by decide) ?_
        refine go_icmp_ne (tgt := 172) X d_Model_cite_155 rfl (hm.gS 13 (by decide) (by decide)) (by decide) (fun hq3 => ?_) (fun hq3 => ?_)
        · skip
          have hF4 := if_f hF2 hq3
          refine go_aload_n X d_Model_cite_172 rfl rfl ?_
          refine go_get (v := vr (r + 10)) X f_Model_38 hm.1.1 rfl d_Model_cite_173 (s_varr (hm.1.2.2 9 _ rfl).2 (by omega)) ?_
          refine go_aload_n X d_Model_cite_176 rfl rfl ?_
          refine go_get (v := vi (S1 0 13)) X f_Model_228 hm.1.1 rfl d_Model_cite_177 (congrArg (s_v .int) ((hm.s 13).trans (rfl))) ?_
          refine go_lload_n X d_Model_cite_180 rfl rfl ?_
          obtain ⟨hc5, hF6⟩ := chk_t hF4
          refine go_last (x := x3) X (hm.1.2.2 9 _ rfl).1 (by decide) hc5 d_Model_cite_181 ?_
          have md7 : mq sh M0 (m_s M1 (r + 10) (S1 0 13) x3) r (m_s S1 10 (S1 0 13) x3) := hm.put (by decide) ((rg_L (by decide) hx3))
          generalize m_s M1 (r + 10) (S1 0 13) x3 = M8 at md7 ⊢
          refine go_aload_n X d_Model_cite_182 rfl rfl ?_
          refine go_dup X d_Model_cite_183 rfl ?_
          refine go_get (v := vi (S1 0 13)) X f_Model_228 md7.1.1 rfl d_Model_cite_184 (congrArg (s_v .int) ((md7.s 13).trans ((m_sk (by decide)).trans (rfl)))) ?_
          refine go_iconst (v := 1) X d_Model_cite_187 ?_
          refine go_iadd X d_Model_cite_188 ?_
          obtain ⟨hc9, hF10⟩ := chk_t hF6
          refine go_put (x := ((S1 0 13) + 1)) (v := vi ((S1 0 13) + 1)) X f_Model_228 md7.1.1 rfl d_Model_cite_189 rfl rfl rfl ?_
          have md11 : mq sh M0 (m_s M8 r 13 ((S1 0 13) + 1)) r (m_s (m_s S1 10 (S1 0 13) x3) 0 13 ((S1 0 13) + 1)) := md7.put0 (by decide) ((rg_S (by decide) (by decide) hc9))
          generalize m_s M8 r 13 ((S1 0 13) + 1) = M12 at md11 ⊢
          refine go_iconst (v := 1) X d_Model_cite_192 ?_
          exact go_iret X d_Model_cite_193 rfl (n_nz (by decide)) (by decide) (by decide) (ret_i hF10 (by decide) md11)
        · skip
          have hF13 := if_t hF2 hq3
          refine go_aload_n X d_Model_cite_158 rfl rfl ?_
          refine go_iconst (v := 2) X d_Model_cite_159 ?_
          obtain ⟨v14, S15, hG16, hF17⟩ := bnd_t hF13
          refine go_cV (st2 := []) (r := []) X k_Model_128 (a_fail l D hm (by decide) hG16) hm.1.1 rfl rfl (by decide) (Nat.le_of_ble_eq_true rfl) d_Model_cite_160 (by decide) (by decide) (fun v' sh' M18 sz' hpp => ?_)
          obtain ⟨e1, e2, e3, hv20, md19⟩ := hpp
          subst e1
          rw [e2, e3]
          clear e2 e3
          show Go g 0 0 sh M18 sz 163 [(0, vr r), (3, vl x3), (7, vi x7)] [vi v14]
          suffices hv21 : Go g 0 0 sh M18 sz 171 [(0, vr r), (3, vl x3), (7, vi x7)] [vi (if 0 < v14 then (1 : Int) else 0)] by
            refine go_if_le (tgt := 170) X d_Model_cite_163 rfl hv20 (fun hq22 => ?_) (fun hq22 => ?_)
            · skip
              refine go_iconst (v := 0) X d_Model_cite_170 ?_
              refine go_top (v' := vi (if 0 < v14 then (1 : Int) else 0)) X (congrArg (fun q => vi q) (show 0 = if 0 < v14 then (1 : Int) else 0 from ((if_neg (Int.not_lt.mpr hq22))).symm)) ?_
              exact hv21
            · skip
              refine go_iconst (v := 1) X d_Model_cite_166 ?_
              refine go_goto (tgt := 171) X d_Model_cite_167 rfl ?_
              refine go_top (v' := vi (if 0 < v14 then (1 : Int) else 0)) X (congrArg (fun q => vi q) (show 1 = if 0 < v14 then (1 : Int) else 0 from ((if_pos hq22)).symm)) ?_
              exact hv21
          exact go_iret X d_Model_cite_171 rfl (n_nz (z_ite (by decide) (by decide))) (by decide) (by decide) (ret_i hF17 (rI_ite (by decide) (by decide)) md19)
      · skip
        have hF23 := if_t hF hq1
        refine go_aload_n X d_Model_cite_129 rfl rfl ?_
        refine go_get (v := vr (r + 10)) X f_Model_38 hm.1.1 rfl d_Model_cite_130 (s_varr (hm.1.2.2 9 _ rfl).2 (by omega)) ?_
        refine go_iload X d_Model_cite_133 rfl ?_
        obtain ⟨hc24, hF25⟩ := chk_t hF23
        refine go_lald X (hm.1.2.2 9 _ rfl).1 (by decide) hc24 d_Model_cite_135 ?_
        refine go_top (v' := vl (S1 10 x7)) X (congrArg (fun q => vl q) ((hm.a (by decide) x7).trans (rfl))) ?_
        refine go_lload_n X d_Model_cite_136 rfl rfl ?_
        refine go_lcmp X (hm.gL (by decide) x7) hx3 d_Model_cite_137 ?_
        refine go_if_ne (tgt := 143) X d_Model_cite_138 rfl (rI_cmp _ _) (fun hq26 => ?_) (fun hq26 => ?_)
        · skip
          have hF27 := if_f hF25 (sc_ne hq26)
          obtain ⟨hc28, hF29⟩ := chk_t hF27
          refine go_iinc (v := 1) (x := x7) (lv' := [(7, vi (x7 + 1)), (0, vr r), (3, vl x3)]) X d_Model_cite_143 rfl (by decide) rfl ?_
          refine go_goto (tgt := 120) X d_Model_cite_146 rfl ?_
          refine go_lv (lv' := [(0, vr r), (3, vl x3), (7, vi (x7 + 1))]) X [1, 2, 0] rfl ?_
          exact ih120 x3 (x7 + 1) S1 M1 hx3 hc28 hm hF29
        · skip
          have hF30 := if_t hF25 (s_cmp0 hq26)
          refine go_iconst (v := 0) X d_Model_cite_141 ?_
          exact go_iret X d_Model_cite_142 rfl (n_nz (by decide)) (by decide) (by decide) (ret_i hF30 (by decide) hm)
  have hJ98 : ∀ (x3 x5 : Int) (S1 M1 : s_M), rL x3 → rI x5 → mq sh M0 M1 r S1 → A_cite_j98 N x3 x5 S1 = some (v0, S0) → Go g 0 0 sh M1 sz 98 [(0, vr r), (3, vl x3), (5, vi x5)] [] := by
    intro x3 x5 S1 M1 hx3 hx5 hm hF
    rw [A_cite_j98_e] at hF
    refine go_iload X d_Model_cite_98 rfl ?_
    refine go_if_ne (tgt := 117) X d_Model_cite_100 rfl hx5 (fun hq31 => ?_) (fun hq31 => ?_)
    · skip
      have hF32 := if_f hF hq31
      refine go_iconst (v := 0) X d_Model_cite_117 ?_
      refine go_istore (lv' := [(7, vi 0), (0, vr r), (3, vl x3), (5, vi x5)]) X d_Model_cite_118 (by decide) rfl ?_
      refine go_lv (lv' := [(0, vr r), (3, vl x3), (7, vi 0)]) X [1, 2, 0] rfl ?_
      exact hL120 N x3 0 S1 M1 hx3 (by decide) hm hF32
    · skip
      have hF33 := if_t hF hq31
      refine go_aload_n X d_Model_cite_103 rfl rfl ?_
      refine go_iconst (v := 1) X d_Model_cite_104 ?_
      obtain ⟨v34, S35, hG36, hF37⟩ := bnd_t hF33
      refine go_cV (st2 := []) (r := []) X k_Model_128 (a_fail l D hm (by decide) hG36) hm.1.1 rfl rfl (by decide) (Nat.le_of_ble_eq_true rfl) d_Model_cite_105 (by decide) (by decide) (fun v' sh' M38 sz' hpp => ?_)
      obtain ⟨e1, e2, e3, hv40, md39⟩ := hpp
      subst e1
      rw [e2, e3]
      clear e2 e3
      show Go g 0 0 sh M38 sz 108 [(0, vr r), (3, vl x3), (5, vi x5)] [vi v34]
      suffices hv41 : Go g 0 0 sh M38 sz 116 [(0, vr r), (3, vl x3), (5, vi x5)] [vi (if 0 < v34 then (1 : Int) else 0)] by
        refine go_if_le (tgt := 115) X d_Model_cite_108 rfl hv40 (fun hq42 => ?_) (fun hq42 => ?_)
        · skip
          refine go_iconst (v := 0) X d_Model_cite_115 ?_
          refine go_top (v' := vi (if 0 < v34 then (1 : Int) else 0)) X (congrArg (fun q => vi q) (show 0 = if 0 < v34 then (1 : Int) else 0 from ((if_neg (Int.not_lt.mpr hq42))).symm)) ?_
          exact hv41
        · skip
          refine go_iconst (v := 1) X d_Model_cite_111 ?_
          refine go_goto (tgt := 116) X d_Model_cite_112 rfl ?_
          refine go_top (v' := vi (if 0 < v34 then (1 : Int) else 0)) X (congrArg (fun q => vi q) (show 1 = if 0 < v34 then (1 : Int) else 0 from ((if_pos hq42)).symm)) ?_
          exact hv41
      exact go_iret X d_Model_cite_116 rfl (n_nz (z_ite (by decide) (by decide))) (by decide) (by decide) (ret_i hF37 (rI_ite (by decide) (by decide)) md39)
  have hL29 : ∀ (n29 : Nat) (x3 x5 x6 x7 : Int) (S1 M1 : s_M), rL x3 → rI x5 → rI x6 → rI x7 → mq sh M0 M1 r S1 → A_cite_l29 N n29 x3 x5 x6 x7 S1 = some (v0, S0) → Go g 0 0 sh M1 sz 29 [(0, vr r), (3, vl x3), (5, vi x5), (6, vi x6), (7, vi x7)] [] := by
    intro n29
    induction n29 with
    | zero => intro x3 x5 x6 x7 S1 M1 hx3 hx5 hx6 hx7 hm hF; cases hF
    | succ n29 ih29 =>
      intro x3 x5 x6 x7 S1 M1 hx3 hx5 hx6 hx7 hm hF
      rw [A_cite_l29_e] at hF
      refine go_iload X d_Model_cite_29 rfl ?_
      refine go_bipush (v := 8) X d_Model_cite_31 (by decide) ?_
      refine go_icmp_ge (tgt := 98) X d_Model_cite_33 rfl hx7 (by decide) (fun hq43 => ?_) (fun hq43 => ?_)
      · skip
        have hF44 := if_f hF (Int.not_lt.mpr hq43)
        refine go_lv (lv' := [(0, vr r), (3, vl x3), (5, vi x5)]) X [0, 1, 2] rfl ?_
        exact hJ98 x3 x5 S1 M1 hx3 hx5 hm hF44
      · skip
        have hF45 := if_t hF hq43
        refine go_iload X d_Model_cite_36 rfl ?_
        refine go_if_eq (tgt := 98) X d_Model_cite_38 rfl hx6 (fun hq46 => ?_) (fun hq46 => ?_)
        · skip
          have hF47 := if_t hF45 hq46
          refine go_lv (lv' := [(0, vr r), (3, vl x3), (5, vi x5)]) X [0, 1, 2] rfl ?_
          exact hJ98 x3 x5 S1 M1 hx3 hx5 hm hF47
        · skip
          have hF48 := if_f hF45 hq46
          refine go_lload_n X d_Model_cite_41 rfl rfl ?_
          refine go_bipush (v := 8) X d_Model_cite_42 (by decide) ?_
          refine go_iload X d_Model_cite_44 rfl ?_
          refine go_imul X d_Model_cite_46 ?_
          obtain ⟨hc49, hF50⟩ := chk_t hF48
          refine go_lshr (z := s_sar x3 (8 * x7)) X d_Model_cite_47 (Int64.ofInt_toInt _).symm ?_
          refine go_ldc2 (x := 255) X w_kl_Model_114 (by decide) d_Model_cite_48 ?_
          refine go_land (z := l_and (s_sar x3 (8 * x7)) 255) X d_Model_cite_51 (Int64.ofInt_toInt _).symm ?_
          refine go_l2i X d_Model_cite_52 ?_
          refine go_top (v' := vi (wi32 (l_and (s_sar x3 (8 * x7)) 255))) X (wi32_vi _) ?_
          refine go_istore (lv' := [(8, vi (wi32 (l_and (s_sar x3 (8 * x7)) 255))), (0, vr r), (3, vl x3), (5, vi x5), (6, vi x6), (7, vi x7)]) X d_Model_cite_53 (by decide) rfl ?_
          refine go_iload X d_Model_cite_55 rfl ?_
          suffices hv51 : Go g 0 0 sh M1 sz 65 [(8, vi (wi32 (l_and (s_sar x3 (8 * x7)) 255))), (0, vr r), (3, vl x3), (5, vi x5), (6, vi x6), (7, vi x7)] [vi (if (wi32 (l_and (s_sar x3 (8 * x7)) 255)) = 0 then (0 : Int) else 1)] by
            refine go_if_eq (tgt := 64) X d_Model_cite_57 rfl (wi32_rng _) (fun hq52 => ?_) (fun hq52 => ?_)
            · skip
              refine go_iconst (v := 0) X d_Model_cite_64 ?_
              refine go_top (v' := vi (if (wi32 (l_and (s_sar x3 (8 * x7)) 255)) = 0 then (0 : Int) else 1)) X (congrArg (fun q => vi q) (show 0 = if (wi32 (l_and (s_sar x3 (8 * x7)) 255)) = 0 then (0 : Int) else 1 from ((if_pos hq52)).symm)) ?_
              exact hv51
            · skip
              refine go_iconst (v := 1) X d_Model_cite_60 ?_
              refine go_goto (tgt := 65) X d_Model_cite_61 rfl ?_
              refine go_top (v' := vi (if (wi32 (l_and (s_sar x3 (8 * x7)) 255)) = 0 then (0 : Int) else 1)) X (congrArg (fun q => vi q) (show 1 = if (wi32 (l_and (s_sar x3 (8 * x7)) 255)) = 0 then (0 : Int) else 1 from ((if_neg hq52)).symm)) ?_
              exact hv51
          refine go_istore (lv' := [(6, vi (if (wi32 (l_and (s_sar x3 (8 * x7)) 255)) = 0 then (0 : Int) else 1)), (8, vi (wi32 (l_and (s_sar x3 (8 * x7)) 255))), (0, vr r), (3, vl x3), (5, vi x5), (7, vi x7)]) X d_Model_cite_65 (by decide) rfl ?_
          refine go_iload X d_Model_cite_67 rfl ?_
          suffices hv53 : Go g 0 0 sh M1 sz 90 [(6, vi (if (wi32 (l_and (s_sar x3 (8 * x7)) 255)) = 0 then (0 : Int) else 1)), (8, vi (wi32 (l_and (s_sar x3 (8 * x7)) 255))), (0, vr r), (3, vl x3), (5, vi x5), (7, vi x7)] [vi (if x5 = 0 then (0 : Int) else (if (if (wi32 (l_and (s_sar x3 (8 * x7)) 255)) = 0 then (0 : Int) else 1) = 0 then (1 : Int) else (if (p_wc (wi32 (l_and (s_sar x3 (8 * x7)) 255))) = true then (1 : Int) else 0)))] by
            refine go_if_eq (tgt := 89) X d_Model_cite_69 rfl hx5 (fun hq54 => ?_) (fun hq54 => ?_)
            · skip
              refine go_iconst (v := 0) X d_Model_cite_89 ?_
              refine go_top (v' := vi (if x5 = 0 then (0 : Int) else (if (if (wi32 (l_and (s_sar x3 (8 * x7)) 255)) = 0 then (0 : Int) else 1) = 0 then (1 : Int) else (if (p_wc (wi32 (l_and (s_sar x3 (8 * x7)) 255))) = true then (1 : Int) else 0)))) X (congrArg (fun q => vi q) (show 0 = if x5 = 0 then (0 : Int) else (if (if (wi32 (l_and (s_sar x3 (8 * x7)) 255)) = 0 then (0 : Int) else 1) = 0 then (1 : Int) else (if (p_wc (wi32 (l_and (s_sar x3 (8 * x7)) 255))) = true then (1 : Int) else 0)) from ((if_pos hq54)).symm)) ?_
              exact hv53
            · skip
              refine go_iload X d_Model_cite_72 rfl ?_
              refine go_if_eq (tgt := 85) X d_Model_cite_74 rfl (rI_ite (by decide) (by decide)) (fun hq55 => ?_) (fun hq55 => ?_)
              · skip
                refine go_iconst (v := 1) X d_Model_cite_85 ?_
                refine go_goto (tgt := 90) X d_Model_cite_86 rfl ?_
                refine go_top (v' := vi (if x5 = 0 then (0 : Int) else (if (if (wi32 (l_and (s_sar x3 (8 * x7)) 255)) = 0 then (0 : Int) else 1) = 0 then (1 : Int) else (if (p_wc (wi32 (l_and (s_sar x3 (8 * x7)) 255))) = true then (1 : Int) else 0)))) X (congrArg (fun q => vi q) (show 1 = if x5 = 0 then (0 : Int) else (if (if (wi32 (l_and (s_sar x3 (8 * x7)) 255)) = 0 then (0 : Int) else 1) = 0 then (1 : Int) else (if (p_wc (wi32 (l_and (s_sar x3 (8 * x7)) 255))) = true then (1 : Int) else 0)) from ((if_neg hq54).trans ((if_pos hq55))).symm)) ?_
                exact hv53
              · skip
                refine go_iload X d_Model_cite_77 rfl ?_
                refine go_cSf (st2 := [vi (s_b (p_wc (wi32 (l_and (s_sar x3 (8 * x7)) 255))))]) (r := []) X k_Model_156 (m_isWord l D (wi32_rng _)) rfl rfl (by decide) (Nat.le_of_ble_eq_true rfl) d_Model_cite_79 (by decide) (by decide) rfl ?_
                refine go_ifb_eq (tgt := 89) X d_Model_cite_82 rfl (fun hq56 => ?_) (fun hq56 => ?_)
                · skip
                  refine go_iconst (v := 0) X d_Model_cite_89 ?_
                  refine go_top (v' := vi (if x5 = 0 then (0 : Int) else (if (if (wi32 (l_and (s_sar x3 (8 * x7)) 255)) = 0 then (0 : Int) else 1) = 0 then (1 : Int) else (if (p_wc (wi32 (l_and (s_sar x3 (8 * x7)) 255))) = true then (1 : Int) else 0)))) X (congrArg (fun q => vi q) (show 0 = if x5 = 0 then (0 : Int) else (if (if (wi32 (l_and (s_sar x3 (8 * x7)) 255)) = 0 then (0 : Int) else 1) = 0 then (1 : Int) else (if (p_wc (wi32 (l_and (s_sar x3 (8 * x7)) 255))) = true then (1 : Int) else 0)) from ((if_neg hq54).trans ((if_neg hq55).trans ((if_neg (bnf hq56))))).symm)) ?_
                  exact hv53
                · skip
                  refine go_iconst (v := 1) X d_Model_cite_85 ?_
                  refine go_goto (tgt := 90) X d_Model_cite_86 rfl ?_
                  refine go_top (v' := vi (if x5 = 0 then (0 : Int) else (if (if (wi32 (l_and (s_sar x3 (8 * x7)) 255)) = 0 then (0 : Int) else 1) = 0 then (1 : Int) else (if (p_wc (wi32 (l_and (s_sar x3 (8 * x7)) 255))) = true then (1 : Int) else 0)))) X (congrArg (fun q => vi q) (show 1 = if x5 = 0 then (0 : Int) else (if (if (wi32 (l_and (s_sar x3 (8 * x7)) 255)) = 0 then (0 : Int) else 1) = 0 then (1 : Int) else (if (p_wc (wi32 (l_and (s_sar x3 (8 * x7)) 255))) = true then (1 : Int) else 0)) from ((if_neg hq54).trans ((if_neg hq55).trans ((if_pos hq56)))).symm)) ?_
                  exact hv53
          refine go_istore (lv' := [(5, vi (if x5 = 0 then (0 : Int) else (if (if (wi32 (l_and (s_sar x3 (8 * x7)) 255)) = 0 then (0 : Int) else 1) = 0 then (1 : Int) else (if (p_wc (wi32 (l_and (s_sar x3 (8 * x7)) 255))) = true then (1 : Int) else 0)))), (6, vi (if (wi32 (l_and (s_sar x3 (8 * x7)) 255)) = 0 then (0 : Int) else 1)), (8, vi (wi32 (l_and (s_sar x3 (8 * x7)) 255))), (0, vr r), (3, vl x3), (7, vi x7)]) X d_Model_cite_90 (by decide) rfl ?_
          obtain ⟨hc57, hF58⟩ := chk_t hF50
          refine go_iinc (v := 1) (x := x7) (lv' := [(7, vi (x7 + 1)), (5, vi (if x5 = 0 then (0 : Int) else (if (if (wi32 (l_and (s_sar x3 (8 * x7)) 255)) = 0 then (0 : Int) else 1) = 0 then (1 : Int) else (if (p_wc (wi32 (l_and (s_sar x3 (8 * x7)) 255))) = true then (1 : Int) else 0)))), (6, vi (if (wi32 (l_and (s_sar x3 (8 * x7)) 255)) = 0 then (0 : Int) else 1)), (8, vi (wi32 (l_and (s_sar x3 (8 * x7)) 255))), (0, vr r), (3, vl x3)]) X d_Model_cite_92 rfl (by decide) rfl ?_
          refine go_goto (tgt := 29) X d_Model_cite_95 rfl ?_
          refine go_lv (lv' := [(0, vr r), (3, vl x3), (5, vi (if x5 = 0 then (0 : Int) else (if (if (wi32 (l_and (s_sar x3 (8 * x7)) 255)) = 0 then (0 : Int) else 1) = 0 then (1 : Int) else (if (p_wc (wi32 (l_and (s_sar x3 (8 * x7)) 255))) = true then (1 : Int) else 0)))), (6, vi (if (wi32 (l_and (s_sar x3 (8 * x7)) 255)) = 0 then (0 : Int) else 1)), (7, vi (x7 + 1))]) X [4, 5, 1, 2, 0] rfl ?_
          exact ih29 x3 (if x5 = 0 then (0 : Int) else (if (if (wi32 (l_and (s_sar x3 (8 * x7)) 255)) = 0 then (0 : Int) else 1) = 0 then (1 : Int) else (if (p_wc (wi32 (l_and (s_sar x3 (8 * x7)) 255))) = true then (1 : Int) else 0))) (if (wi32 (l_and (s_sar x3 (8 * x7)) 255)) = 0 then (0 : Int) else 1) (x7 + 1) S1 M1 hx3 (rI_ite (by decide) (rI_ite (by decide) (rI_ite (by decide) (by decide)))) (rI_ite (by decide) (by decide)) hc57 hm hF58
  rw [A_cite_e] at hF
  refine go_aload_n X d_Model_cite_0 rfl rfl ?_
  refine go_iconst (v := 0) X d_Model_cite_1 ?_
  refine go_put (x := 0) (v := vi 0) X f_Model_95 h.1.1 rfl d_Model_cite_2 rfl rfl rfl ?_
  have md59 : mq sh M0 (m_s M r 0 0) r (m_s S 0 0 0) := h.put0 (by decide) ((rg_S (by decide) (by decide) (by decide)))
  generalize m_s M r 0 0 = M60 at md59 ⊢
  refine go_lload_n X d_Model_cite_5 rfl rfl ?_
  refine go_top (v' := vl (u64 x1)) X (u64_vl _) ?_
  obtain ⟨hc61, hF62⟩ := chk_t hF
  refine go_cSf (st2 := [vl (mwof (u64 x1))]) (r := []) X k_Model_224 (m_wordOf l D (u64_rng _)) rfl rfl (by decide) (Nat.le_of_ble_eq_true rfl) d_Model_cite_6 (by decide) (by decide) rfl ?_
  refine go_lstore_n (lv' := [(3, vl (mwof (u64 x1))), (0, vr r), (1, vl x1)]) X d_Model_cite_9 rfl (by decide) rfl ?_
  refine go_lload_n X d_Model_cite_10 rfl rfl ?_
  refine go_lconst (x := 0) X d_Model_cite_11 (by decide) ?_
  refine go_lcmp X hc61 (by decide) d_Model_cite_12 ?_
  suffices hv63 : Go g 0 0 sh M60 sz 21 [(3, vl (mwof (u64 x1))), (0, vr r), (1, vl x1)] [vi (if (mwof (u64 x1)) = 0 then (0 : Int) else 1)] by
    refine go_if_eq (tgt := 20) X d_Model_cite_13 rfl (rI_cmp _ _) (fun hq64 => ?_) (fun hq64 => ?_)
    · skip
      refine go_iconst (v := 0) X d_Model_cite_20 ?_
      refine go_top (v' := vi (if (mwof (u64 x1)) = 0 then (0 : Int) else 1)) X (congrArg (fun q => vi q) (show 0 = if (mwof (u64 x1)) = 0 then (0 : Int) else 1 from ((if_pos (s_cmp0 hq64))).symm)) ?_
      exact hv63
    · skip
      refine go_iconst (v := 1) X d_Model_cite_16 ?_
      refine go_goto (tgt := 21) X d_Model_cite_17 rfl ?_
      refine go_top (v' := vi (if (mwof (u64 x1)) = 0 then (0 : Int) else 1)) X (congrArg (fun q => vi q) (show 1 = if (mwof (u64 x1)) = 0 then (0 : Int) else 1 from ((if_neg (sc_ne hq64))).symm)) ?_
      exact hv63
  refine go_istore (lv' := [(5, vi (if (mwof (u64 x1)) = 0 then (0 : Int) else 1)), (3, vl (mwof (u64 x1))), (0, vr r), (1, vl x1)]) X d_Model_cite_21 (by decide) rfl ?_
  refine go_iconst (v := 1) X d_Model_cite_23 ?_
  refine go_istore (lv' := [(6, vi 1), (5, vi (if (mwof (u64 x1)) = 0 then (0 : Int) else 1)), (3, vl (mwof (u64 x1))), (0, vr r), (1, vl x1)]) X d_Model_cite_24 (by decide) rfl ?_
  refine go_iconst (v := 0) X d_Model_cite_26 ?_
  refine go_istore (lv' := [(7, vi 0), (6, vi 1), (5, vi (if (mwof (u64 x1)) = 0 then (0 : Int) else 1)), (3, vl (mwof (u64 x1))), (0, vr r), (1, vl x1)]) X d_Model_cite_27 (by decide) rfl ?_
  refine go_lv (lv' := [(0, vr r), (3, vl (mwof (u64 x1))), (5, vi (if (mwof (u64 x1)) = 0 then (0 : Int) else 1)), (6, vi 1), (7, vi 0)]) X [4, 3, 2, 1, 0] rfl ?_
  exact hL29 N (mwof (u64 x1)) (if (mwof (u64 x1)) = 0 then (0 : Int) else 1) 1 0 (m_s S 0 0 0) M60 hc61 (rI_ite (by decide) (by decide)) (by decide) (by decide) md59 hF62
def A_forget (N : Nat) (S : s_M) : rO := some (S 0 13, m_s (m_s S 0 0 0) 0 13 0)
theorem A_forget_e (N : Nat) (S : s_M) : A_forget N S = (some (S 0 13, m_s (m_s S 0 0 0) 0 13 0)) := rfl
set_option maxHeartbeats 4000000 in
set_option maxRecDepth 100000 in
theorem a_forget (l : Launch) (D : va_G) {sh : s_S} {M0 M : s_M} {sz r  : Int} {N : Nat} {S S0 : s_M} {v0 : Int} (h : mq sh M0 M r S) (hF : A_forget N S = some (v0, S0)) : Sp l D y_Model_forget prog_14_method_38_code 2 (some .int) 1 0 0 [vr r] sh M sz (fun v' sh' M' sz' => v' = some (vi v0) ∧ sh' = sh ∧ sz' = sz ∧ rI v0 ∧ mq sh M0 M' r S0) := by
  have hr0 := h.1.2.1
  refine Sp.ofGo (own := "CiteForgeModel") (nm := "forget") (by decide) rfl rfl (Nat.le_of_ble_eq_true rfl) (lv := [(0, vr r)]) rfl ?_
  intro g X
  rw [A_forget_e] at hF
  refine go_aload_n X d_Model_forget_0 rfl rfl ?_
  refine go_iconst (v := 0) X d_Model_forget_1 ?_
  refine go_put (x := 0) (v := vi 0) X f_Model_95 h.1.1 rfl d_Model_forget_2 rfl rfl rfl ?_
  have md1 : mq sh M0 (m_s M r 0 0) r (m_s S 0 0 0) := h.put0 (by decide) ((rg_S (by decide) (by decide) (by decide)))
  generalize m_s M r 0 0 = M2 at md1 ⊢
  refine go_aload_n X d_Model_forget_5 rfl rfl ?_
  refine go_get (v := vi (S 0 13)) X f_Model_228 md1.1.1 rfl d_Model_forget_6 (congrArg (s_v .int) ((md1.s 13).trans ((m_sj (by decide)).trans (rfl)))) ?_
  refine go_istore_n (lv' := [(1, vi (S 0 13)), (0, vr r)]) X d_Model_forget_9 rfl (by decide) rfl ?_
  refine go_aload_n X d_Model_forget_10 rfl rfl ?_
  refine go_iconst (v := 0) X d_Model_forget_11 ?_
  refine go_put (x := 0) (v := vi 0) X f_Model_228 md1.1.1 rfl d_Model_forget_12 rfl rfl rfl ?_
  have md3 : mq sh M0 (m_s M2 r 13 0) r (m_s (m_s S 0 0 0) 0 13 0) := md1.put0 (by decide) ((rg_S (by decide) (by decide) (by decide)))
  generalize m_s M2 r 13 0 = M4 at md3 ⊢
  refine go_iload_n X d_Model_forget_15 rfl rfl ?_
  exact go_iret X d_Model_forget_16 rfl rfl (by decide) (by decide) (ret_i hF (rI_eq (md1.gS 13 (by decide) (by decide)) ((m_sj (by decide)).trans (rfl))) md3)
def A_isListed_j31 (N : Nat) (k4 : Int → Int → Int → s_M → rO) (x1 x3 y0 : Int) (S : s_M) : rO := chk (rI (x3 + 1)) <| k4 x1 y0 (x3 + 1) S
theorem A_isListed_j31_e (N : Nat) (k4 : Int → Int → Int → s_M → rO) (x1 x3 y0 : Int) (S : s_M) : A_isListed_j31 N k4 x1 x3 y0 S = (chk (rI (x3 + 1)) <| k4 x1 y0 (x3 + 1) S) := rfl
def A_isListed_j26 (N : Nat) (k4 : Int → Int → Int → s_M → rO) (x1 x3 : Int) (S : s_M) : rO := A_isListed_j31 N k4 x1 x3 1 S
theorem A_isListed_j26_e (N : Nat) (k4 : Int → Int → Int → s_M → rO) (x1 x3 : Int) (S : s_M) : A_isListed_j26 N k4 x1 x3 S = (A_isListed_j31 N k4 x1 x3 1 S) := rfl
def A_isListed_l4 (N : Nat) : Nat → Int → Int → Int → s_M → rO
  | 0, _, _, _, _ => none
  | n + 1, x1, x2, x3, S => if x3 < (S 0 15) then (if x2 = 0 then (chk (0 ≤ x3 ∧ x3 < 8) <| if (S 11 x3) = x1 then (A_isListed_j26 N (A_isListed_l4 N n) x1 x3 S) else (A_isListed_j31 N (A_isListed_l4 N n) x1 x3 0 S)) else (A_isListed_j26 N (A_isListed_l4 N n) x1 x3 S)) else (chk (0 ≤ x2 ∧ x2 ≤ 1) <| some (x2, S))
theorem A_isListed_l4_e (N : Nat) (n : Nat) (x1 x2 x3 : Int) (S : s_M) : A_isListed_l4 N (n + 1) x1 x2 x3 S = (if x3 < (S 0 15) then (if x2 = 0 then (chk (0 ≤ x3 ∧ x3 < 8) <| if (S 11 x3) = x1 then (A_isListed_j26 N (A_isListed_l4 N n) x1 x3 S) else (A_isListed_j31 N (A_isListed_l4 N n) x1 x3 0 S)) else (A_isListed_j26 N (A_isListed_l4 N n) x1 x3 S)) else (chk (0 ≤ x2 ∧ x2 ≤ 1) <| some (x2, S))) := rfl
def A_isListed (N : Nat) (x1 : Int) (S : s_M) : rO := A_isListed_l4 N N x1 0 0 S
theorem A_isListed_e (N : Nat) (x1 : Int) (S : s_M) : A_isListed N x1 S = (A_isListed_l4 N N x1 0 0 S) := rfl
set_option maxHeartbeats 4000000 in
set_option maxRecDepth 100000 in
theorem a_isListed (l : Launch) (D : va_G) {sh : s_S} {M0 M : s_M} {sz r x1 : Int} {N : Nat} {S S0 : s_M} {v0 : Int} (h : mq sh M0 M r S) (hx1 : rI x1) (hF : A_isListed N x1 S = some (v0, S0)) : Sp l D y_Model_isListed prog_14_method_39_code 4 (some .boolean) 1 0 0 [vr r, vi x1] sh M sz (fun v' sh' M' sz' => v' = some (vi v0) ∧ sh' = sh ∧ sz' = sz ∧ rI v0 ∧ mq sh M0 M' r S0) := by
  have hr0 := h.1.2.1
  refine Sp.ofGo (own := "CiteForgeModel") (nm := "isListed") (by decide) rfl rfl (Nat.le_of_ble_eq_true rfl) (lv := [(0, vr r), (1, vi x1)]) rfl ?_
  intro g X
  have hL4 : ∀ (n4 : Nat) (x1 x2 x3 : Int) (S1 M1 : s_M), rI x1 → rI x2 → rI x3 → mq sh M0 M1 r S1 → A_isListed_l4 N n4 x1 x2 x3 S1 = some (v0, S0) → Go g 0 0 sh M1 sz 4 [(0, vr r), (1, vi x1), (2, vi x2), (3, vi x3)] [] := by
    intro n4
    induction n4 with
    | zero => intro x1 x2 x3 S1 M1 hx1 hx2 hx3 hm hF; cases hF
    | succ n4 ih4 =>
      have hJ31 : ∀ (x1 x3 y0 : Int) (S1 M1 : s_M), rI x1 → rI x3 → rI y0 → mq sh M0 M1 r S1 → A_isListed_j31 N (A_isListed_l4 N n4) x1 x3 y0 S1 = some (v0, S0) → Go g 0 0 sh M1 sz 31 [(0, vr r), (1, vi x1), (3, vi x3)] [vi y0] := by
        intro x1 x3 y0 S1 M1 hx1 hx3 hy0 hm hF
        rw [A_isListed_j31_e] at hF
        refine go_istore_n (lv' := [(2, vi y0), (0, vr r), (1, vi x1), (3, vi x3)]) X d_Model_isListed_31 rfl (by decide) rfl ?_
        obtain ⟨hc1, hF2⟩ := chk_t hF
        refine go_iinc (v := 1) (x := x3) (lv' := [(3, vi (x3 + 1)), (2, vi y0), (0, vr r), (1, vi x1)]) X d_Model_isListed_32 rfl (by decide) rfl ?_
        refine go_goto (tgt := 4) X d_Model_isListed_35 rfl ?_
        refine go_lv (lv' := [(0, vr r), (1, vi x1), (2, vi y0), (3, vi (x3 + 1))]) X [2, 3, 1, 0] rfl ?_
        exact ih4 x1 y0 (x3 + 1) S1 M1 hx1 hy0 hc1 hm hF2
      have hJ26 : ∀ (x1 x3 : Int) (S1 M1 : s_M), rI x1 → rI x3 → mq sh M0 M1 r S1 → A_isListed_j26 N (A_isListed_l4 N n4) x1 x3 S1 = some (v0, S0) → Go g 0 0 sh M1 sz 26 [(0, vr r), (1, vi x1), (3, vi x3)] [] := by
        intro x1 x3 S1 M1 hx1 hx3 hm hF
        rw [A_isListed_j26_e] at hF
        refine go_iconst (v := 1) X d_Model_isListed_26 ?_
        refine go_goto (tgt := 31) X d_Model_isListed_27 rfl ?_
        refine go_lv (lv' := [(0, vr r), (1, vi x1), (3, vi x3)]) X [0, 1, 2] rfl ?_
        exact hJ31 x1 x3 1 S1 M1 hx1 hx3 (by decide) hm hF
      intro x1 x2 x3 S1 M1 hx1 hx2 hx3 hm hF
      rw [A_isListed_l4_e] at hF
      refine go_iload_n X d_Model_isListed_4 rfl rfl ?_
      refine go_aload_n X d_Model_isListed_5 rfl rfl ?_
      refine go_get (v := vi (S1 0 15)) X f_Model_210 hm.1.1 rfl d_Model_isListed_6 (congrArg (s_v .int) ((hm.s 15).trans (rfl))) ?_
      refine go_icmp_ge (tgt := 38) X d_Model_isListed_9 rfl hx3 (hm.gS 15 (by decide) (by decide)) (fun hq3 => ?_) (fun hq3 => ?_)
      · skip
        have hF4 := if_f hF (Int.not_lt.mpr hq3)
        refine go_iload_n X d_Model_isListed_38 rfl rfl ?_
        obtain ⟨hc5, hF6⟩ := chk_t hF4
        exact go_iret X d_Model_isListed_39 rfl (n_nz hc5) (by decide) (by decide) (ret_i hF6 hx2 hm)
      · skip
        have hF7 := if_t hF hq3
        refine go_iload_n X d_Model_isListed_12 rfl rfl ?_
        refine go_if_ne (tgt := 26) X d_Model_isListed_13 rfl hx2 (fun hq8 => ?_) (fun hq8 => ?_)
        · skip
          have hF9 := if_f hF7 hq8
          refine go_lv (lv' := [(0, vr r), (1, vi x1), (3, vi x3)]) X [0, 1, 3] rfl ?_
          exact hJ26 x1 x3 S1 M1 hx1 hx3 hm hF9
        · skip
          have hF10 := if_t hF7 hq8
          refine go_aload_n X d_Model_isListed_16 rfl rfl ?_
          refine go_get (v := vr (r + 11)) X f_Model_41 hm.1.1 rfl d_Model_isListed_17 (s_varr (hm.1.2.2 10 _ rfl).2 (by omega)) ?_
          refine go_iload_n X d_Model_isListed_20 rfl rfl ?_
          obtain ⟨hc11, hF12⟩ := chk_t hF10
          refine go_iald X (hm.1.2.2 10 _ rfl).1 (by decide) hc11 d_Model_isListed_21 ?_
          refine go_top (v' := vi (S1 11 x3)) X (congrArg (fun q => vi q) ((hm.a (by decide) x3).trans (rfl))) ?_
          refine go_iload_n X d_Model_isListed_22 rfl rfl ?_
          refine go_icmp_ne (tgt := 30) X d_Model_isListed_23 rfl (hm.gA (by decide) x3) hx1 (fun hq13 => ?_) (fun hq13 => ?_)
          · skip
            have hF14 := if_f hF12 hq13
            refine go_iconst (v := 0) X d_Model_isListed_30 ?_
            refine go_lv (lv' := [(0, vr r), (1, vi x1), (3, vi x3)]) X [0, 1, 3] rfl ?_
            exact hJ31 x1 x3 0 S1 M1 hx1 hx3 (by decide) hm hF14
          · skip
            have hF15 := if_t hF12 hq13
            refine go_lv (lv' := [(0, vr r), (1, vi x1), (3, vi x3)]) X [0, 1, 3] rfl ?_
            exact hJ26 x1 x3 S1 M1 hx1 hx3 hm hF15
  rw [A_isListed_e] at hF
  refine go_iconst (v := 0) X d_Model_isListed_0 ?_
  refine go_istore_n (lv' := [(2, vi 0), (0, vr r), (1, vi x1)]) X d_Model_isListed_1 rfl (by decide) rfl ?_
  refine go_iconst (v := 0) X d_Model_isListed_2 ?_
  refine go_istore_n (lv' := [(3, vi 0), (2, vi 0), (0, vr r), (1, vi x1)]) X d_Model_isListed_3 rfl (by decide) rfl ?_
  refine go_lv (lv' := [(0, vr r), (1, vi x1), (2, vi 0), (3, vi 0)]) X [2, 3, 1, 0] rfl ?_
  exact hL4 N x1 0 0 S M hx1 (by decide) (by decide) h hF
def A_packed_j53 (N : Nat) (x2 : Int) (S : s_M) : rO := some (x2, S)
theorem A_packed_j53_e (N : Nat) (x2 : Int) (S : s_M) : A_packed_j53 N x2 S = (some (x2, S)) := rfl
def A_packed_l5 (N : Nat) : Nat → Int → Int → Int → s_M → rO
  | 0, _, _, _, _ => none
  | n + 1, x1, x2, x4, S => chk (0 ≤ x1 ∧ x1 < 85) <| if x4 < (S 3 x1) then (chk (0 ≤ x1 ∧ x1 < 85) <| if (S 3 x1) < 9 then (bnd (A_at N x1 x4 S) fun v11 S12 => chk (rI (8 * x4)) <| chk (rI (x4 + 1)) <| (A_packed_l5 N n) x1 (l_orr x2 (l_shf (p_low v11) (8 * x4))) (x4 + 1) S12) else (A_packed_j53 N x2 S)) else (A_packed_j53 N x2 S)
theorem A_packed_l5_e (N : Nat) (n : Nat) (x1 x2 x4 : Int) (S : s_M) : A_packed_l5 N (n + 1) x1 x2 x4 S = (chk (0 ≤ x1 ∧ x1 < 85) <| if x4 < (S 3 x1) then (chk (0 ≤ x1 ∧ x1 < 85) <| if (S 3 x1) < 9 then (bnd (A_at N x1 x4 S) fun v11 S12 => chk (rI (8 * x4)) <| chk (rI (x4 + 1)) <| (A_packed_l5 N n) x1 (l_orr x2 (l_shf (p_low v11) (8 * x4))) (x4 + 1) S12) else (A_packed_j53 N x2 S)) else (A_packed_j53 N x2 S)) := rfl
def A_packed (N : Nat) (x1 : Int) (S : s_M) : rO := A_packed_l5 N N x1 0 0 S
theorem A_packed_e (N : Nat) (x1 : Int) (S : s_M) : A_packed N x1 S = (A_packed_l5 N N x1 0 0 S) := rfl
set_option maxHeartbeats 4000000 in
set_option maxRecDepth 100000 in
theorem a_packed (l : Launch) (D : va_G) {sh : s_S} {M0 M : s_M} {sz r x1 : Int} {N : Nat} {S S0 : s_M} {v0 : Int} (h : mq sh M0 M r S) (hx1 : rI x1) (hF : A_packed N x1 S = some (v0, S0)) : Sp l D y_Model_packed prog_14_method_16_code 5 (some .long) 3 0 0 [vr r, vi x1] sh M sz (fun v' sh' M' sz' => v' = some (vl v0) ∧ sh' = sh ∧ sz' = sz ∧ rL v0 ∧ mq sh M0 M' r S0) := by
  have hr0 := h.1.2.1
  refine Sp.ofGo (own := "CiteForgeModel") (nm := "packed") (by decide) rfl rfl (Nat.le_of_ble_eq_true rfl) (lv := [(0, vr r), (1, vi x1)]) rfl ?_
  intro g X
  have hJ53 : ∀ (x2 : Int) (S1 M1 : s_M), rL x2 → mq sh M0 M1 r S1 → A_packed_j53 N x2 S1 = some (v0, S0) → Go g 0 0 sh M1 sz 53 [(0, vr r), (2, vl x2)] [] := by
    intro x2 S1 M1 hx2 hm hF
    rw [A_packed_j53_e] at hF
    refine go_lload_n X d_Model_packed_53 rfl rfl ?_
    exact go_lret X d_Model_packed_54 rfl (by decide) (by decide) (ret_l hF hx2 hm)
  have hL5 : ∀ (n5 : Nat) (x1 x2 x4 : Int) (S1 M1 : s_M), rI x1 → rL x2 → rI x4 → mq sh M0 M1 r S1 → A_packed_l5 N n5 x1 x2 x4 S1 = some (v0, S0) → Go g 0 0 sh M1 sz 5 [(0, vr r), (1, vi x1), (2, vl x2), (4, vi x4)] [] := by
    intro n5
    induction n5 with
    | zero => intro x1 x2 x4 S1 M1 hx1 hx2 hx4 hm hF; cases hF
    | succ n5 ih5 =>
      intro x1 x2 x4 S1 M1 hx1 hx2 hx4 hm hF
      rw [A_packed_l5_e] at hF
      refine go_iload X d_Model_packed_5 rfl ?_
      refine go_aload_n X d_Model_packed_7 rfl rfl ?_
      refine go_get (v := vr (r + 3)) X f_Model_16 hm.1.1 rfl d_Model_packed_8 (s_varr (hm.1.2.2 2 _ rfl).2 (by omega)) ?_
      refine go_iload_n X d_Model_packed_11 rfl rfl ?_
      obtain ⟨hc1, hF2⟩ := chk_t hF
      refine go_iald X (hm.1.2.2 2 _ rfl).1 (by decide) hc1 d_Model_packed_12 ?_
      refine go_top (v' := vi (S1 3 x1)) X (congrArg (fun q => vi q) ((hm.a (by decide) x1).trans (rfl))) ?_
      refine go_icmp_ge (tgt := 53) X d_Model_packed_13 rfl hx4 (hm.gA (by decide) x1) (fun hq3 => ?_) (fun hq3 => ?_)
      · skip
        have hF4 := if_f hF2 (Int.not_lt.mpr hq3)
        refine go_lv (lv' := [(0, vr r), (2, vl x2)]) X [0, 2] rfl ?_
        exact hJ53 x2 S1 M1 hx2 hm hF4
      · skip
        have hF5 := if_t hF2 hq3
        refine go_aload_n X d_Model_packed_16 rfl rfl ?_
        refine go_get (v := vr (r + 3)) X f_Model_16 hm.1.1 rfl d_Model_packed_17 (s_varr (hm.1.2.2 2 _ rfl).2 (by omega)) ?_
        refine go_iload_n X d_Model_packed_20 rfl rfl ?_
        obtain ⟨hc6, hF7⟩ := chk_t hF5
        refine go_iald X (hm.1.2.2 2 _ rfl).1 (by decide) hc6 d_Model_packed_21 ?_
        refine go_top (v' := vi (S1 3 x1)) X (congrArg (fun q => vi q) ((hm.a (by decide) x1).trans (rfl))) ?_
        refine go_bipush (v := 9) X d_Model_packed_22 (by decide) ?_
        refine go_icmp_ge (tgt := 53) X d_Model_packed_24 rfl (hm.gA (by decide) x1) (by decide) (fun hq8 => ?_) (fun hq8 => ?_)
        · skip
          have hF9 := if_f hF7 (Int.not_lt.mpr hq8)
          refine go_lv (lv' := [(0, vr r), (2, vl x2)]) X [0, 2] rfl ?_
          exact hJ53 x2 S1 M1 hx2 hm hF9
        · skip
          have hF10 := if_t hF7 hq8
          refine go_lload_n X d_Model_packed_27 rfl rfl ?_
          refine go_aload_n X d_Model_packed_28 rfl rfl ?_
          refine go_iload_n X d_Model_packed_29 rfl rfl ?_
          refine go_iload X d_Model_packed_30 rfl ?_
          obtain ⟨v11, S12, hG13, hF14⟩ := bnd_t hF10
          refine go_cV (st2 := []) (r := [vl x2]) X k_Model_99 (a_at l D hm hx1 hx4 hG13) hm.1.1 rfl rfl (by decide) (Nat.le_of_ble_eq_true rfl) d_Model_packed_32 (by decide) (by decide) (fun v' sh' M15 sz' hpp => ?_)
          obtain ⟨e1, e2, e3, hv17, md16⟩ := hpp
          subst e1
          rw [e2, e3]
          clear e2 e3
          show Go g 0 0 sh M15 sz 35 [(0, vr r), (1, vi x1), (2, vl x2), (4, vi x4)] [vi v11, vl x2]
          refine go_cSf (st2 := [vi (p_low v11), vl x2]) (r := [vl x2]) X k_Model_116 (m_small l D hv17) rfl rfl (by decide) (Nat.le_of_ble_eq_true rfl) d_Model_packed_35 (by decide) (by decide) rfl ?_
          refine go_i2l X d_Model_packed_38 (rI_small hv17) ?_
          refine go_bipush (v := 8) X d_Model_packed_39 (by decide) ?_
          refine go_iload X d_Model_packed_41 rfl ?_
          refine go_imul X d_Model_packed_43 ?_
          obtain ⟨hc18, hF19⟩ := chk_t hF14
          refine go_lshl (z := l_shf (p_low v11) (8 * x4)) X d_Model_packed_44 (Int64.ofInt_toInt _).symm ?_
          refine go_lor (z := l_orr x2 (l_shf (p_low v11) (8 * x4))) X d_Model_packed_45 (Int64.ofInt_toInt _).symm ?_
          refine go_lstore_n (lv' := [(2, vl (l_orr x2 (l_shf (p_low v11) (8 * x4)))), (0, vr r), (1, vi x1), (4, vi x4)]) X d_Model_packed_46 rfl (by decide) rfl ?_
          obtain ⟨hc20, hF21⟩ := chk_t hF19
          refine go_iinc (v := 1) (x := x4) (lv' := [(4, vi (x4 + 1)), (2, vl (l_orr x2 (l_shf (p_low v11) (8 * x4)))), (0, vr r), (1, vi x1)]) X d_Model_packed_47 rfl (by decide) rfl ?_
          refine go_goto (tgt := 5) X d_Model_packed_50 rfl ?_
          refine go_lv (lv' := [(0, vr r), (1, vi x1), (2, vl (l_orr x2 (l_shf (p_low v11) (8 * x4)))), (4, vi (x4 + 1))]) X [2, 3, 1, 0] rfl ?_
          exact ih5 x1 (l_orr x2 (l_shf (p_low v11) (8 * x4))) (x4 + 1) S12 M15 hx1 (rL_64 _) hc20 md16 hF21
  rw [A_packed_e] at hF
  refine go_lconst (x := 0) X d_Model_packed_0 (by decide) ?_
  refine go_lstore_n (lv' := [(2, vl 0), (0, vr r), (1, vi x1)]) X d_Model_packed_1 rfl (by decide) rfl ?_
  refine go_iconst (v := 0) X d_Model_packed_2 ?_
  refine go_istore (lv' := [(4, vi 0), (2, vl 0), (0, vr r), (1, vi x1)]) X d_Model_packed_3 (by decide) rfl ?_
  refine go_lv (lv' := [(0, vr r), (1, vi x1), (2, vl 0), (4, vi 0)]) X [2, 3, 1, 0] rfl ?_
  exact hL5 N x1 0 0 S M hx1 (by decide) (by decide) h hF
def A_refers_j22 (N : Nat) (y0 : Int) (S : s_M) : rO := some (y0, S)
theorem A_refers_j22_e (N : Nat) (y0 : Int) (S : s_M) : A_refers_j22 N y0 S = (some (y0, S)) := rfl
def A_refers (N : Nat) (x1 : Int) (S : s_M) : rO := bnd (A_own N x1 7378429404699914851 S) fun v1 S2 => if v1 < 0 then (A_refers_j22 N 0 S2) else (bnd (A_packed N v1 S2) fun v10 S11 => A_refers_j22 N v10 S11)
theorem A_refers_e (N : Nat) (x1 : Int) (S : s_M) : A_refers N x1 S = (bnd (A_own N x1 7378429404699914851 S) fun v1 S2 => if v1 < 0 then (A_refers_j22 N 0 S2) else (bnd (A_packed N v1 S2) fun v10 S11 => A_refers_j22 N v10 S11)) := rfl
set_option maxHeartbeats 4000000 in
set_option maxRecDepth 100000 in
theorem a_refers (l : Launch) (D : va_G) {sh : s_S} {M0 M : s_M} {sz r x1 : Int} {N : Nat} {S S0 : s_M} {v0 : Int} (h : mq sh M0 M r S) (hx1 : rI x1) (hF : A_refers N x1 S = some (v0, S0)) : Sp l D y_Model_refers prog_14_method_40_code 3 (some .long) 4 0 0 [vr r, vi x1] sh M sz (fun v' sh' M' sz' => v' = some (vl v0) ∧ sh' = sh ∧ sz' = sz ∧ rL v0 ∧ mq sh M0 M' r S0) := by
  have hr0 := h.1.2.1
  refine Sp.ofGo (own := "CiteForgeModel") (nm := "refers") (by decide) rfl rfl (Nat.le_of_ble_eq_true rfl) (lv := [(0, vr r), (1, vi x1)]) rfl ?_
  intro g X
  have hJ22 : ∀ (y0 : Int) (S1 M1 : s_M), rL y0 → mq sh M0 M1 r S1 → A_refers_j22 N y0 S1 = some (v0, S0) → Go g 0 0 sh M1 sz 22 [(0, vr r)] [vl y0] := by
    intro y0 S1 M1 hy0 hm hF
    rw [A_refers_j22_e] at hF
    exact go_lret X d_Model_refers_22 rfl (by decide) (by decide) (ret_l hF hy0 hm)
  rw [A_refers_e] at hF
  refine go_aload_n X d_Model_refers_0 rfl rfl ?_
  refine go_iload_n X d_Model_refers_1 rfl rfl ?_
  refine go_ldc2 (x := 7378429404699914851) X w_kl_Model_231 (by decide) d_Model_refers_2 ?_
  obtain ⟨v1, S2, hG3, hF4⟩ := bnd_t hF
  refine go_cV (st2 := []) (r := []) X k_Model_197 (a_own l D h hx1 (by decide) hG3) h.1.1 rfl rfl (by decide) (Nat.le_of_ble_eq_true rfl) d_Model_refers_5 (by decide) (by decide) (fun v' sh' M5 sz' hpp => ?_)
  obtain ⟨e1, e2, e3, hv7, md6⟩ := hpp
  subst e1
  rw [e2, e3]
  clear e2 e3
  show Go g 0 0 sh M5 sz 8 [(0, vr r), (1, vi x1)] [vi v1]
  refine go_istore_n (lv' := [(2, vi v1), (0, vr r), (1, vi x1)]) X d_Model_refers_8 rfl (by decide) rfl ?_
  refine go_iload_n X d_Model_refers_9 rfl rfl ?_
  refine go_if_ge (tgt := 17) X d_Model_refers_10 rfl hv7 (fun hq8 => ?_) (fun hq8 => ?_)
  · skip
    have hF9 := if_f hF4 (Int.not_lt.mpr hq8)
    refine go_aload_n X d_Model_refers_17 rfl rfl ?_
    refine go_iload_n X d_Model_refers_18 rfl rfl ?_
    obtain ⟨v10, S11, hG12, hF13⟩ := bnd_t hF9
    refine go_cV (st2 := []) (r := []) X k_Model_233 (a_packed l D md6 hv7 hG12) md6.1.1 rfl rfl (by decide) (Nat.le_of_ble_eq_true rfl) d_Model_refers_19 (by decide) (by decide) (fun v' sh' M14 sz' hpp => ?_)
    obtain ⟨e1, e2, e3, hv16, md15⟩ := hpp
    subst e1
    rw [e2, e3]
    clear e2 e3
    show Go g 0 0 sh M14 sz 22 [(2, vi v1), (0, vr r), (1, vi x1)] [vl v10]
    refine go_lv (lv' := [(0, vr r)]) X [1] rfl ?_
    exact hJ22 v10 S11 M14 hv16 md15 hF13
  · skip
    have hF17 := if_t hF4 hq8
    refine go_lconst (x := 0) X d_Model_refers_13 (by decide) ?_
    refine go_goto (tgt := 22) X d_Model_refers_14 rfl ?_
    refine go_lv (lv' := [(0, vr r)]) X [1] rfl ?_
    exact hJ22 0 S2 M5 (by decide) md6 hF17
