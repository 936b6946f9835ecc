def A_initial_j124 (N : Nat) (S : s_M) : rO := bnd (A_add N 84 46 S) fun v1 S2 => some (0, S2)
theorem A_initial_j124_e (N : Nat) (S : s_M) : A_initial_j124 N S = (bnd (A_add N 84 46 S) fun v1 S2 => some (0, S2)) := rfl
def A_initial_j106 (N : Nat) (k72 : Int → Int → Int → s_M → rO) (x1 x3 y0 : Int) (S : s_M) : rO := chk (rI (x3 + (-1))) <| k72 x1 y0 (x3 + (-1)) S
theorem A_initial_j106_e (N : Nat) (k72 : Int → Int → Int → s_M → rO) (x1 x3 y0 : Int) (S : s_M) : A_initial_j106 N k72 x1 x3 y0 S = (chk (rI (x3 + (-1))) <| k72 x1 y0 (x3 + (-1)) S) := rfl
def A_initial_l72 (N : Nat) : Nat → Int → Int → Int → s_M → rO
  | 0, _, _, _, _ => none
  | n + 1, x1, x2, x3, S => chk (0 ≤ x1 ∧ x1 < 40) <| if x3 < (S 22 x1) then (if x2 < 0 then (A_initial_j124 N  S) else (bnd (A_add N 84 x2 S) fun v17 S18 => A_initial_j124 N  S18)) else (bnd (A_at N 82 x3 S) fun v25 S26 => if (p_let v25) = true then (bnd (A_at N 82 x3 S26) fun v35 S36 => A_initial_j106 N (A_initial_l72 N n) x1 x3 v35 S36) else (A_initial_j106 N (A_initial_l72 N n) x1 x3 x2 S26))
theorem A_initial_l72_e (N : Nat) (n : Nat) (x1 x2 x3 : Int) (S : s_M) : A_initial_l72 N (n + 1) x1 x2 x3 S = (chk (0 ≤ x1 ∧ x1 < 40) <| if x3 < (S 22 x1) then (if x2 < 0 then (A_initial_j124 N  S) else (bnd (A_add N 84 x2 S) fun v17 S18 => A_initial_j124 N  S18)) else (bnd (A_at N 82 x3 S) fun v25 S26 => if (p_let v25) = true then (bnd (A_at N 82 x3 S26) fun v35 S36 => A_initial_j106 N (A_initial_l72 N n) x1 x3 v35 S36) else (A_initial_j106 N (A_initial_l72 N n) x1 x3 x2 S26))) := rfl
def A_initial_j56 (N : Nat) (k11 : Int → Int → Int → s_M → rO) (x1 x3 y0 : Int) (S : s_M) : rO := chk (rI (x3 + (-1))) <| k11 x1 y0 (x3 + (-1)) S
theorem A_initial_j56_e (N : Nat) (k11 : Int → Int → Int → s_M → rO) (x1 x3 y0 : Int) (S : s_M) : A_initial_j56 N k11 x1 x3 y0 S = (chk (rI (x3 + (-1))) <| k11 x1 y0 (x3 + (-1)) S) := rfl
def A_initial_j55 (N : Nat) (k11 : Int → Int → Int → s_M → rO) (x1 x2 x3 : Int) (S : s_M) : rO := A_initial_j56 N k11 x1 x3 x2 S
theorem A_initial_j55_e (N : Nat) (k11 : Int → Int → Int → s_M → rO) (x1 x2 x3 : Int) (S : s_M) : A_initial_j55 N k11 x1 x2 x3 S = (A_initial_j56 N k11 x1 x3 x2 S) := rfl
def A_initial_l11 (N : Nat) : Nat → Int → Int → Int → s_M → rO
  | 0, _, _, _, _ => none
  | n + 1, x1, x2, x3, S => chk (0 ≤ x1 ∧ x1 < 40) <| if x3 < (S 22 x1) then (chk (0 ≤ x1 ∧ x1 < 40) <| chk (rI ((S 23 x1) - 1)) <| A_initial_l72 N N x1 x2 ((S 23 x1) - 1) S) else (bnd (A_at N 82 x3 S) fun v53 S54 => if v53 = 123 then (A_initial_j55 N (A_initial_l11 N n) x1 x2 x3 S54) else (bnd (A_at N 82 x3 S54) fun v63 S64 => if v63 = 125 then (A_initial_j55 N (A_initial_l11 N n) x1 x2 x3 S64) else (bnd (A_at N 82 x3 S64) fun v73 S74 => A_initial_j56 N (A_initial_l11 N n) x1 x3 v73 S74)))
theorem A_initial_l11_e (N : Nat) (n : Nat) (x1 x2 x3 : Int) (S : s_M) : A_initial_l11 N (n + 1) x1 x2 x3 S = (chk (0 ≤ x1 ∧ x1 < 40) <| if x3 < (S 22 x1) then (chk (0 ≤ x1 ∧ x1 < 40) <| chk (rI ((S 23 x1) - 1)) <| A_initial_l72 N N x1 x2 ((S 23 x1) - 1) S) else (bnd (A_at N 82 x3 S) fun v53 S54 => if v53 = 123 then (A_initial_j55 N (A_initial_l11 N n) x1 x2 x3 S54) else (bnd (A_at N 82 x3 S54) fun v63 S64 => if v63 = 125 then (A_initial_j55 N (A_initial_l11 N n) x1 x2 x3 S64) else (bnd (A_at N 82 x3 S64) fun v73 S74 => A_initial_j56 N (A_initial_l11 N n) x1 x3 v73 S74)))) := rfl
def A_initial (N : Nat) (x1 : Int) (S : s_M) : rO := chk (0 ≤ x1 ∧ x1 < 40) <| chk (rI ((S 23 x1) - 1)) <| A_initial_l11 N N x1 (-1) ((S 23 x1) - 1) S
theorem A_initial_e (N : Nat) (x1 : Int) (S : s_M) : A_initial N x1 S = (chk (0 ≤ x1 ∧ x1 < 40) <| chk (rI ((S 23 x1) - 1)) <| A_initial_l11 N N x1 (-1) ((S 23 x1) - 1) S) := rfl
set_option maxHeartbeats 4000000 in
set_option maxRecDepth 100000 in
theorem a_initial (l : Launch) (D : va_G) {sh : s_S} {M0 M : s_M} {sz r x1 : Int} {N : Nat} {S S0 : s_M} {v0 : Int} (h : mq sh M0 M r S) (hx1 : rI x1) (hF : A_initial N x1 S = some (v0, S0)) : Sp l D y_Model_initial prog_14_method_77_code 4 none 3 0 0 [vr r, vi x1] sh M sz (fun v' sh' M' sz' => v' = none ∧ sh' = sh ∧ sz' = sz ∧ mq sh M0 M' r S0) := by
  have hr0 := h.1.2.1
  refine Sp.ofGo (own := "CiteForgeModel") (nm := "initial") (by decide) rfl rfl (Nat.le_of_ble_eq_true rfl) (lv := [(0, vr r), (1, vi x1)]) rfl ?_
  intro g X
  have hJ124 : ∀ (S1 M1 : s_M), mq sh M0 M1 r S1 → A_initial_j124 N S1 = some (v0, S0) → Go g 0 0 sh M1 sz 124 [(0, vr r)] [] := by
    intro S1 M1 hm hF
    rw [A_initial_j124_e] at hF
    refine go_aload_n X d_Model_initial_124 rfl rfl ?_
    refine go_bipush (v := 84) X d_Model_initial_125 (by decide) ?_
    refine go_bipush (v := 46) X d_Model_initial_127 (by decide) ?_
    obtain ⟨v1, S2, hG3, hF4⟩ := bnd_t hF
    refine go_cV (st2 := []) (r := []) X k_Model_124 (a_add l D hm (by decide) (by decide) hG3) hm.1.1 rfl rfl (by decide) (Nat.le_of_ble_eq_true rfl) d_Model_initial_129 (by decide) (by decide) (fun v' sh' M5 sz' hpp => ?_)
    obtain ⟨e1, e2, e3, md6⟩ := hpp
    subst e1
    rw [e2, e3]
    clear e2 e3
    show Go g 0 0 sh M5 sz 132 [(0, vr r)] []
    exact go_vret X d_Model_initial_132 rfl (by decide) (by decide) (ret_v hF4 md6)
  have hL72 : ∀ (n72 : Nat) (x1 x2 x3 : Int) (S1 M1 : s_M), rI x1 → rI x2 → rI x3 → mq sh M0 M1 r S1 → A_initial_l72 N n72 x1 x2 x3 S1 = some (v0, S0) → Go g 0 0 sh M1 sz 72 [(0, vr r), (1, vi x1), (2, vi x2), (3, vi x3)] [] := by
    intro n72
    induction n72 with
    | zero => intro x1 x2 x3 S1 M1 hx1 hx2 hx3 hm hF; cases hF
    | succ n72 ih72 =>
      have hJ106 : ∀ (x1 x3 y0 : Int) (S1 M1 : s_M), rI x1 → rI x3 → rI y0 → mq sh M0 M1 r S1 → A_initial_j106 N (A_initial_l72 N n72) x1 x3 y0 S1 = some (v0, S0) → Go g 0 0 sh M1 sz 106 [(0, vr r), (1, vi x1), (3, vi x3)] [vi y0] := by
        intro x1 x3 y0 S1 M1 hx1 hx3 hy0 hm hF
        rw [A_initial_j106_e] at hF
        refine go_istore_n (lv' := [(2, vi y0), (0, vr r), (1, vi x1), (3, vi x3)]) X d_Model_initial_106 rfl (by decide) rfl ?_
        obtain ⟨hc8, hF9⟩ := chk_t hF
        refine go_iinc (v := (-1)) (x := x3) (lv' := [(3, vi (x3 + (-1))), (2, vi y0), (0, vr r), (1, vi x1)]) X d_Model_initial_107 rfl (by decide) rfl ?_
        refine go_goto (tgt := 72) X d_Model_initial_110 rfl ?_
        refine go_lv (lv' := [(0, vr r), (1, vi x1), (2, vi y0), (3, vi (x3 + (-1)))]) X [2, 3, 1, 0] rfl ?_
        exact ih72 x1 y0 (x3 + (-1)) S1 M1 hx1 hy0 hc8 hm hF9
      intro x1 x2 x3 S1 M1 hx1 hx2 hx3 hm hF
      rw [A_initial_l72_e] at hF
      refine go_iload_n X d_Model_initial_72 rfl rfl ?_
      refine go_aload_n X d_Model_initial_73 rfl rfl ?_
      refine go_get (v := vr (r + 22)) X f_Model_74 hm.1.1 rfl d_Model_initial_74 (s_varr (hm.1.2.2 21 _ rfl).2 (by omega)) ?_
      refine go_iload_n X d_Model_initial_77 rfl rfl ?_
      obtain ⟨hc10, hF11⟩ := chk_t hF
      refine go_iald X (hm.1.2.2 21 _ rfl).1 (by decide) hc10 d_Model_initial_78 ?_
      refine go_top (v' := vi (S1 22 x1)) X (congrArg (fun q => vi q) ((hm.a (by decide) x1).trans (rfl))) ?_
      refine go_icmp_lt (tgt := 113) X d_Model_initial_79 rfl hx3 (hm.gA (by decide) x1) (fun hq12 => ?_) (fun hq12 => ?_)
      · skip
        have hF13 := if_t hF11 hq12
        refine go_iload_n X d_Model_initial_113 rfl rfl ?_
        refine go_if_lt (tgt := 124) X d_Model_initial_114 rfl hx2 (fun hq14 => ?_) (fun hq14 => ?_)
        · skip
          have hF15 := if_t hF13 hq14
          refine go_lv (lv' := [(0, vr r)]) X [0] rfl ?_
          exact hJ124  S1 M1  hm hF15
        · skip
          have hF16 := if_f hF13 (Int.not_lt.mpr hq14)
          refine go_aload_n X d_Model_initial_117 rfl rfl ?_
          refine go_bipush (v := 84) X d_Model_initial_118 (by decide) ?_
          refine go_iload_n X d_Model_initial_120 rfl rfl ?_
          obtain ⟨v17, S18, hG19, hF20⟩ := bnd_t hF16
          refine go_cV (st2 := []) (r := []) X k_Model_124 (a_add l D hm (by decide) hx2 hG19) hm.1.1 rfl rfl (by decide) (Nat.le_of_ble_eq_true rfl) d_Model_initial_121 (by decide) (by decide) (fun v' sh' M21 sz' hpp => ?_)
          obtain ⟨e1, e2, e3, md22⟩ := hpp
          subst e1
          rw [e2, e3]
          clear e2 e3
          show Go g 0 0 sh M21 sz 124 [(0, vr r), (1, vi x1), (2, vi x2), (3, vi x3)] []
          refine go_lv (lv' := [(0, vr r)]) X [0] rfl ?_
          exact hJ124  S18 M21  md22 hF20
      · skip
        have hF24 := if_f hF11 (Int.not_lt.mpr hq12)
        refine go_aload_n X d_Model_initial_82 rfl rfl ?_
        refine go_bipush (v := 82) X d_Model_initial_83 (by decide) ?_
        refine go_iload_n X d_Model_initial_85 rfl rfl ?_
        obtain ⟨v25, S26, hG27, hF28⟩ := bnd_t hF24
        refine go_cV (st2 := []) (r := []) X k_Model_99 (a_at l D hm (by decide) hx3 hG27) hm.1.1 rfl rfl (by decide) (Nat.le_of_ble_eq_true rfl) d_Model_initial_86 (by decide) (by decide) (fun v' sh' M29 sz' hpp => ?_)
        obtain ⟨e1, e2, e3, hv31, md30⟩ := hpp
        subst e1
        rw [e2, e3]
        clear e2 e3
        show Go g 0 0 sh M29 sz 89 [(0, vr r), (1, vi x1), (2, vi x2), (3, vi x3)] [vi v25]
        refine go_cSf (st2 := [vi (s_b (p_let v25))]) (r := []) X k_Model_107 (m_isLetter l D hv31) rfl rfl (by decide) (Nat.le_of_ble_eq_true rfl) d_Model_initial_89 (by decide) (by decide) rfl ?_
        refine go_ifb_eq (tgt := 105) X d_Model_initial_92 rfl (fun hq32 => ?_) (fun hq32 => ?_)
        · skip
          have hF33 := if_f hF28 (bnf hq32)
          refine go_iload_n X d_Model_initial_105 rfl rfl ?_
          refine go_lv (lv' := [(0, vr r), (1, vi x1), (3, vi x3)]) X [0, 1, 3] rfl ?_
          exact hJ106 x1 x3 x2 S26 M29 hx1 hx3 hx2 md30 hF33
        · skip
          have hF34 := if_t hF28 hq32
          refine go_aload_n X d_Model_initial_95 rfl rfl ?_
          refine go_bipush (v := 82) X d_Model_initial_96 (by decide) ?_
          refine go_iload_n X d_Model_initial_98 rfl rfl ?_
          obtain ⟨v35, S36, hG37, hF38⟩ := bnd_t hF34
          refine go_cV (st2 := []) (r := []) X k_Model_99 (a_at l D md30 (by decide) hx3 hG37) md30.1.1 rfl rfl (by decide) (Nat.le_of_ble_eq_true rfl) d_Model_initial_99 (by decide) (by decide) (fun v' sh' M39 sz' hpp => ?_)
          obtain ⟨e1, e2, e3, hv41, md40⟩ := hpp
          subst e1
          rw [e2, e3]
          clear e2 e3
          show Go g 0 0 sh M39 sz 102 [(0, vr r), (1, vi x1), (2, vi x2), (3, vi x3)] [vi v35]
          refine go_goto (tgt := 106) X d_Model_initial_102 rfl ?_
          refine go_lv (lv' := [(0, vr r), (1, vi x1), (3, vi x3)]) X [0, 1, 3] rfl ?_
          exact hJ106 x1 x3 v35 S36 M39 hx1 hx3 hv41 md40 hF38
  have hL11 : ∀ (n11 : Nat) (x1 x2 x3 : Int) (S1 M1 : s_M), rI x1 → rI x2 → rI x3 → mq sh M0 M1 r S1 → A_initial_l11 N n11 x1 x2 x3 S1 = some (v0, S0) → Go g 0 0 sh M1 sz 11 [(0, vr r), (1, vi x1), (2, vi x2), (3, vi x3)] [] := by
    intro n11
    induction n11 with
    | zero => intro x1 x2 x3 S1 M1 hx1 hx2 hx3 hm hF; cases hF
    | succ n11 ih11 =>
      have hJ56 : ∀ (x1 x3 y0 : Int) (S1 M1 : s_M), rI x1 → rI x3 → rI y0 → mq sh M0 M1 r S1 → A_initial_j56 N (A_initial_l11 N n11) x1 x3 y0 S1 = some (v0, S0) → Go g 0 0 sh M1 sz 56 [(0, vr r), (1, vi x1), (3, vi x3)] [vi y0] := by
        intro x1 x3 y0 S1 M1 hx1 hx3 hy0 hm hF
        rw [A_initial_j56_e] at hF
        refine go_istore_n (lv' := [(2, vi y0), (0, vr r), (1, vi x1), (3, vi x3)]) X d_Model_initial_56 rfl (by decide) rfl ?_
        obtain ⟨hc42, hF43⟩ := chk_t hF
        refine go_iinc (v := (-1)) (x := x3) (lv' := [(3, vi (x3 + (-1))), (2, vi y0), (0, vr r), (1, vi x1)]) X d_Model_initial_57 rfl (by decide) rfl ?_
        refine go_goto (tgt := 11) X d_Model_initial_60 rfl ?_
        refine go_lv (lv' := [(0, vr r), (1, vi x1), (2, vi y0), (3, vi (x3 + (-1)))]) X [2, 3, 1, 0] rfl ?_
        exact ih11 x1 y0 (x3 + (-1)) S1 M1 hx1 hy0 hc42 hm hF43
      have hJ55 : ∀ (x1 x2 x3 : Int) (S1 M1 : s_M), rI x1 → rI x2 → rI x3 → mq sh M0 M1 r S1 → A_initial_j55 N (A_initial_l11 N n11) x1 x2 x3 S1 = some (v0, S0) → Go g 0 0 sh M1 sz 55 [(0, vr r), (1, vi x1), (2, vi x2), (3, vi x3)] [] := by
        intro x1 x2 x3 S1 M1 hx1 hx2 hx3 hm hF
        rw [A_initial_j55_e] at hF
        refine go_iload_n X d_Model_initial_55 rfl rfl ?_
        refine go_lv (lv' := [(0, vr r), (1, vi x1), (3, vi x3)]) X [0, 1, 3] rfl ?_
        exact hJ56 x1 x3 x2 S1 M1 hx1 hx3 hx2 hm hF
      intro x1 x2 x3 S1 M1 hx1 hx2 hx3 hm hF
      rw [A_initial_l11_e] at hF
      refine go_iload_n X d_Model_initial_11 rfl rfl ?_
      refine go_aload_n X d_Model_initial_12 rfl rfl ?_
      refine go_get (v := vr (r + 22)) X f_Model_74 hm.1.1 rfl d_Model_initial_13 (s_varr (hm.1.2.2 21 _ rfl).2 (by omega)) ?_
      refine go_iload_n X d_Model_initial_16 rfl rfl ?_
      obtain ⟨hc44, hF45⟩ := chk_t hF
      refine go_iald X (hm.1.2.2 21 _ rfl).1 (by decide) hc44 d_Model_initial_17 ?_
      refine go_top (v' := vi (S1 22 x1)) X (congrArg (fun q => vi q) ((hm.a (by decide) x1).trans (rfl))) ?_
      refine go_icmp_lt (tgt := 63) X d_Model_initial_18 rfl hx3 (hm.gA (by decide) x1) (fun hq46 => ?_) (fun hq46 => ?_)
      · skip
        have hF47 := if_t hF45 hq46
        refine go_aload_n X d_Model_initial_63 rfl rfl ?_
        refine go_get (v := vr (r + 23)) X f_Model_77 hm.1.1 rfl d_Model_initial_64 (s_varr (hm.1.2.2 22 _ rfl).2 (by omega)) ?_
        refine go_iload_n X d_Model_initial_67 rfl rfl ?_
        obtain ⟨hc48, hF49⟩ := chk_t hF47
        refine go_iald X (hm.1.2.2 22 _ rfl).1 (by decide) hc48 d_Model_initial_68 ?_
        refine go_top (v' := vi (S1 23 x1)) X (congrArg (fun q => vi q) ((hm.a (by decide) x1).trans (rfl))) ?_
        refine go_iconst (v := 1) X d_Model_initial_69 ?_
        refine go_isub X d_Model_initial_70 ?_
        obtain ⟨hc50, hF51⟩ := chk_t hF49
        refine go_istore_n (lv' := [(3, vi ((S1 23 x1) - 1)), (0, vr r), (1, vi x1), (2, vi x2)]) X d_Model_initial_71 rfl (by decide) rfl ?_
        refine go_lv (lv' := [(0, vr r), (1, vi x1), (2, vi x2), (3, vi ((S1 23 x1) - 1))]) X [1, 2, 3, 0] rfl ?_
        exact hL72 N x1 x2 ((S1 23 x1) - 1) S1 M1 hx1 hx2 hc50 hm hF51
      · skip
        have hF52 := if_f hF45 (Int.not_lt.mpr hq46)
        refine go_aload_n X d_Model_initial_21 rfl rfl ?_
        refine go_bipush (v := 82) X d_Model_initial_22 (by decide) ?_
        refine go_iload_n X d_Model_initial_24 rfl rfl ?_
        obtain ⟨v53, S54, hG55, hF56⟩ := bnd_t hF52
        refine go_cV (st2 := []) (r := []) X k_Model_99 (a_at l D hm (by decide) hx3 hG55) hm.1.1 rfl rfl (by decide) (Nat.le_of_ble_eq_true rfl) d_Model_initial_25 (by decide) (by decide) (fun v' sh' M57 sz' hpp => ?_)
        obtain ⟨e1, e2, e3, hv59, md58⟩ := hpp
        subst e1
        rw [e2, e3]
        clear e2 e3
        show Go g 0 0 sh M57 sz 28 [(0, vr r), (1, vi x1), (2, vi x2), (3, vi x3)] [vi v53]
        refine go_bipush (v := 123) X d_Model_initial_28 (by decide) ?_
        refine go_icmp_eq (tgt := 55) X d_Model_initial_30 rfl hv59 (by decide) (fun hq60 => ?_) (fun hq60 => ?_)
        · skip
          have hF61 := if_t hF56 hq60
          refine go_lv (lv' := [(0, vr r), (1, vi x1), (2, vi x2), (3, vi x3)]) X [0, 1, 2, 3] rfl ?_
          exact hJ55 x1 x2 x3 S54 M57 hx1 hx2 hx3 md58 hF61
        · skip
          have hF62 := if_f hF56 hq60
          refine go_aload_n X d_Model_initial_33 rfl rfl ?_
          refine go_bipush (v := 82) X d_Model_initial_34 (by decide) ?_
          refine go_iload_n X d_Model_initial_36 rfl rfl ?_
          obtain ⟨v63, S64, hG65, hF66⟩ := bnd_t hF62
          refine go_cV (st2 := []) (r := []) X k_Model_99 (a_at l D md58 (by decide) hx3 hG65) md58.1.1 rfl rfl (by decide) (Nat.le_of_ble_eq_true rfl) d_Model_initial_37 (by decide) (by decide) (fun v' sh' M67 sz' hpp => ?_)
          obtain ⟨e1, e2, e3, hv69, md68⟩ := hpp
          subst e1
          rw [e2, e3]
          clear e2 e3
          show Go g 0 0 sh M67 sz 40 [(0, vr r), (1, vi x1), (2, vi x2), (3, vi x3)] [vi v63]
          refine go_bipush (v := 125) X d_Model_initial_40 (by decide) ?_
          refine go_icmp_eq (tgt := 55) X d_Model_initial_42 rfl hv69 (by decide) (fun hq70 => ?_) (fun hq70 => ?_)
          · skip
            have hF71 := if_t hF66 hq70
            refine go_lv (lv' := [(0, vr r), (1, vi x1), (2, vi x2), (3, vi x3)]) X [0, 1, 2, 3] rfl ?_
            exact hJ55 x1 x2 x3 S64 M67 hx1 hx2 hx3 md68 hF71
          · skip
            have hF72 := if_f hF66 hq70
            refine go_aload_n X d_Model_initial_45 rfl rfl ?_
            refine go_bipush (v := 82) X d_Model_initial_46 (by decide) ?_
            refine go_iload_n X d_Model_initial_48 rfl rfl ?_
            obtain ⟨v73, S74, hG75, hF76⟩ := bnd_t hF72
            refine go_cV (st2 := []) (r := []) X k_Model_99 (a_at l D md68 (by decide) hx3 hG75) md68.1.1 rfl rfl (by decide) (Nat.le_of_ble_eq_true rfl) d_Model_initial_49 (by decide) (by decide) (fun v' sh' M77 sz' hpp => ?_)
            obtain ⟨e1, e2, e3, hv79, md78⟩ := hpp
            subst e1
            rw [e2, e3]
            clear e2 e3
            show Go g 0 0 sh M77 sz 52 [(0, vr r), (1, vi x1), (2, vi x2), (3, vi x3)] [vi v73]
            refine go_goto (tgt := 56) X d_Model_initial_52 rfl ?_
            refine go_lv (lv' := [(0, vr r), (1, vi x1), (3, vi x3)]) X [0, 1, 3] rfl ?_
            exact hJ56 x1 x3 v73 S74 M77 hx1 hx3 hv79 md78 hF76
  rw [A_initial_e] at hF
  refine go_iconst (v := (-1)) X d_Model_initial_0 ?_
  refine go_istore_n (lv' := [(2, vi (-1)), (0, vr r), (1, vi x1)]) X d_Model_initial_1 rfl (by decide) rfl ?_
  refine go_aload_n X d_Model_initial_2 rfl rfl ?_
  refine go_get (v := vr (r + 23)) X f_Model_77 h.1.1 rfl d_Model_initial_3 (s_varr (h.1.2.2 22 _ rfl).2 (by omega)) ?_
  refine go_iload_n X d_Model_initial_6 rfl rfl ?_
  obtain ⟨hc80, hF81⟩ := chk_t hF
  refine go_iald X (h.1.2.2 22 _ rfl).1 (by decide) hc80 d_Model_initial_7 ?_
  refine go_top (v' := vi (S 23 x1)) X (congrArg (fun q => vi q) ((h.a (by decide) x1).trans (rfl))) ?_
  refine go_iconst (v := 1) X d_Model_initial_8 ?_
  refine go_isub X d_Model_initial_9 ?_
  obtain ⟨hc82, hF83⟩ := chk_t hF81
  refine go_istore_n (lv' := [(3, vi ((S 23 x1) - 1)), (2, vi (-1)), (0, vr r), (1, vi x1)]) X d_Model_initial_10 rfl (by decide) rfl ?_
  refine go_lv (lv' := [(0, vr r), (1, vi x1), (2, vi (-1)), (3, vi ((S 23 x1) - 1))]) X [2, 3, 1, 0] rfl ?_
  exact hL11 N x1 (-1) ((S 23 x1) - 1) S M hx1 (by decide) hc82 h hF83
def A_group_j128 (N : Nat) (k6 : Int → Int → Int → Int → Int → s_M → rO) (x1 x2 x3 x4 x5 : Int) (S : s_M) : rO := chk (rI (x5 + 1)) <| k6 x1 x2 x3 x4 (x5 + 1) S
theorem A_group_j128_e (N : Nat) (k6 : Int → Int → Int → Int → Int → s_M → rO) (x1 x2 x3 x4 x5 : Int) (S : s_M) : A_group_j128 N k6 x1 x2 x3 x4 x5 S = (chk (rI (x5 + 1)) <| k6 x1 x2 x3 x4 (x5 + 1) S) := rfl
def A_group_l92 (N : Nat) (k6 : Int → Int → Int → Int → Int → s_M → rO) : Nat → Int → Int → Int → Int → Int → Int → s_M → rO
  | 0, _, _, _, _, _, _, _ => none
  | n + 1, x1, x2, x3, x4, x5, x6, S => chk (0 ≤ x5 ∧ x5 < 40) <| if x6 < (S 23 x5) then (if x3 = 0 then (bnd (A_at N 82 x6 S) fun v11 S12 => bnd (A_add N 84 v11 S12) fun v18 S19 => chk (rI (x6 + 1)) <| (A_group_l92 N k6 n) x1 x2 x3 x4 x5 (x6 + 1) S19) else (A_group_j128 N k6 x1 x2 x3 x4 x5 S)) else (A_group_j128 N k6 x1 x2 x3 x4 x5 S)
theorem A_group_l92_e (N : Nat) (k6 : Int → Int → Int → Int → Int → s_M → rO) (n : Nat) (x1 x2 x3 x4 x5 x6 : Int) (S : s_M) : A_group_l92 N k6 (n + 1) x1 x2 x3 x4 x5 x6 S = (chk (0 ≤ x5 ∧ x5 < 40) <| if x6 < (S 23 x5) then (if x3 = 0 then (bnd (A_at N 82 x6 S) fun v11 S12 => bnd (A_add N 84 v11 S12) fun v18 S19 => chk (rI (x6 + 1)) <| (A_group_l92 N k6 n) x1 x2 x3 x4 x5 (x6 + 1) S19) else (A_group_j128 N k6 x1 x2 x3 x4 x5 S)) else (A_group_j128 N k6 x1 x2 x3 x4 x5 S)) := rfl
def A_group_j83 (N : Nat) (k6 : Int → Int → Int → Int → Int → s_M → rO) (x1 x2 x3 x4 x5 : Int) (S : s_M) : rO := chk (0 ≤ x5 ∧ x5 < 40) <| A_group_l92 N k6 N x1 x2 x3 x4 x5 (S 22 x5) S
theorem A_group_j83_e (N : Nat) (k6 : Int → Int → Int → Int → Int → s_M → rO) (x1 x2 x3 x4 x5 : Int) (S : s_M) : A_group_j83 N k6 x1 x2 x3 x4 x5 S = (chk (0 ≤ x5 ∧ x5 < 40) <| A_group_l92 N k6 N x1 x2 x3 x4 x5 (S 22 x5) S) := rfl
def A_group_j65 (N : Nat) (k6 : Int → Int → Int → Int → Int → s_M → rO) (x1 x2 x3 x5 : Int) (S : s_M) : rO := if x3 = 0 then (A_group_j83 N k6 x1 x2 x3 1 x5 (m_s S 0 43 1)) else (bnd (A_initial N x5 (m_s S 0 43 1)) fun v34 S35 => A_group_j83 N k6 x1 x2 x3 1 x5 S35)
theorem A_group_j65_e (N : Nat) (k6 : Int → Int → Int → Int → Int → s_M → rO) (x1 x2 x3 x5 : Int) (S : s_M) : A_group_j65 N k6 x1 x2 x3 x5 S = (if x3 = 0 then (A_group_j83 N k6 x1 x2 x3 1 x5 (m_s S 0 43 1)) else (bnd (A_initial N x5 (m_s S 0 43 1)) fun v34 S35 => A_group_j83 N k6 x1 x2 x3 1 x5 S35)) := rfl
def A_group_j50 (N : Nat) (k6 : Int → Int → Int → Int → Int → s_M → rO) (x1 x2 x3 x5 : Int) (S : s_M) : rO := if (S 0 43) = 0 then (A_group_j65 N k6 x1 x2 x3 x5 S) else (bnd (A_add N 84 32 S) fun v44 S45 => A_group_j65 N k6 x1 x2 x3 x5 S45)
theorem A_group_j50_e (N : Nat) (k6 : Int → Int → Int → Int → Int → s_M → rO) (x1 x2 x3 x5 : Int) (S : s_M) : A_group_j50 N k6 x1 x2 x3 x5 S = (if (S 0 43) = 0 then (A_group_j65 N k6 x1 x2 x3 x5 S) else (bnd (A_add N 84 32 S) fun v44 S45 => A_group_j65 N k6 x1 x2 x3 x5 S45)) := rfl
def A_group_l6 (N : Nat) : Nat → Int → Int → Int → Int → Int → s_M → rO
  | 0, _, _, _, _, _, _ => none
  | n + 1, x1, x2, x3, x4, x5, S => if x5 < (S 0 37) then (chk (0 ≤ x5 ∧ x5 < 40) <| if (S 25 x5) = x1 then (if (S 0 43) = 0 then (A_group_j50 N (A_group_l6 N n) x1 x2 x3 x5 S) else (if x4 = 0 then (if x2 = 0 then (A_group_j50 N (A_group_l6 N n) x1 x2 x3 x5 S) else (bnd (A_add N 84 44 S) fun v68 S69 => A_group_j50 N (A_group_l6 N n) x1 x2 x3 x5 S69)) else (A_group_j50 N (A_group_l6 N n) x1 x2 x3 x5 S))) else (A_group_j128 N (A_group_l6 N n) x1 x2 x3 x4 x5 S)) else (some (0, S))
theorem A_group_l6_e (N : Nat) (n : Nat) (x1 x2 x3 x4 x5 : Int) (S : s_M) : A_group_l6 N (n + 1) x1 x2 x3 x4 x5 S = (if x5 < (S 0 37) then (chk (0 ≤ x5 ∧ x5 < 40) <| if (S 25 x5) = x1 then (if (S 0 43) = 0 then (A_group_j50 N (A_group_l6 N n) x1 x2 x3 x5 S) else (if x4 = 0 then (if x2 = 0 then (A_group_j50 N (A_group_l6 N n) x1 x2 x3 x5 S) else (bnd (A_add N 84 44 S) fun v68 S69 => A_group_j50 N (A_group_l6 N n) x1 x2 x3 x5 S69)) else (A_group_j50 N (A_group_l6 N n) x1 x2 x3 x5 S))) else (A_group_j128 N (A_group_l6 N n) x1 x2 x3 x4 x5 S)) else (some (0, S))) := rfl
def A_group (N : Nat) (x1 x2 x3 : Int) (S : s_M) : rO := A_group_l6 N N x1 x2 x3 0 0 S
theorem A_group_e (N : Nat) (x1 x2 x3 : Int) (S : s_M) : A_group N x1 x2 x3 S = (A_group_l6 N N x1 x2 x3 0 0 S) := rfl
set_option maxHeartbeats 4000000 in
set_option maxRecDepth 100000 in
theorem a_group (l : Launch) (D : va_G) {sh : s_S} {M0 M : s_M} {sz r x1 x2 x3 : Int} {N : Nat} {S S0 : s_M} {v0 : Int} (h : mq sh M0 M r S) (hx1 : rI x1) (hx2 : rI x2) (hx3 : rI x3) (hF : A_group N x1 x2 x3 S = some (v0, S0)) : Sp l D y_Model_group prog_14_method_78_code 7 none 4 0 0 [vr r, vi x1, vi x2, vi x3] sh M sz (fun v' sh' M' sz' => v' = none ∧ sh' = sh ∧ sz' = sz ∧ mq sh M0 M' r S0) := by
  have hr0 := h.1.2.1
  refine Sp.ofGo (own := "CiteForgeModel") (nm := "group") (by decide) rfl rfl (Nat.le_of_ble_eq_true rfl) (lv := [(0, vr r), (1, vi x1), (2, vi x2), (3, vi x3)]) rfl ?_
  intro g X
  have hL6 : ∀ (n6 : Nat) (x1 x2 x3 x4 x5 : Int) (S1 M1 : s_M), rI x1 → rI x2 → rI x3 → rI x4 → rI x5 → mq sh M0 M1 r S1 → A_group_l6 N n6 x1 x2 x3 x4 x5 S1 = some (v0, S0) → Go g 0 0 sh M1 sz 6 [(0, vr r), (1, vi x1), (2, vi x2), (3, vi x3), (4, vi x4), (5, vi x5)] [] := by
    intro n6
    induction n6 with
    | zero => intro x1 x2 x3 x4 x5 S1 M1 hx1 hx2 hx3 hx4 hx5 hm hF; cases hF
    | succ n6 ih6 =>
      have hJ128 : ∀ (x1 x2 x3 x4 x5 : Int) (S1 M1 : s_M), rI x1 → rI x2 → rI x3 → rI x4 → rI x5 → mq sh M0 M1 r S1 → A_group_j128 N (A_group_l6 N n6) x1 x2 x3 x4 x5 S1 = some (v0, S0) → Go g 0 0 sh M1 sz 128 [(0, vr r), (1, vi x1), (2, vi x2), (3, vi x3), (4, vi x4), (5, vi x5)] [] := by
        intro x1 x2 x3 x4 x5 S1 M1 hx1 hx2 hx3 hx4 hx5 hm hF
        rw [A_group_j128_e] at hF
        obtain ⟨hc1, hF2⟩ := chk_t hF
        refine go_iinc (v := 1) (x := x5) (lv' := [(5, vi (x5 + 1)), (0, vr r), (1, vi x1), (2, vi x2), (3, vi x3), (4, vi x4)]) X d_Model_group_128 rfl (by decide) rfl ?_
        refine go_goto (tgt := 6) X d_Model_group_131 rfl ?_
        refine go_lv (lv' := [(0, vr r), (1, vi x1), (2, vi x2), (3, vi x3), (4, vi x4), (5, vi (x5 + 1))]) X [1, 2, 3, 4, 5, 0] rfl ?_
        exact ih6 x1 x2 x3 x4 (x5 + 1) S1 M1 hx1 hx2 hx3 hx4 hc1 hm hF2
      have hL92 : ∀ (n92 : Nat) (x1 x2 x3 x4 x5 x6 : Int) (S1 M1 : s_M), rI x1 → rI x2 → rI x3 → rI x4 → rI x5 → rI x6 → mq sh M0 M1 r S1 → A_group_l92 N (A_group_l6 N n6) n92 x1 x2 x3 x4 x5 x6 S1 = some (v0, S0) → Go g 0 0 sh M1 sz 92 [(0, vr r), (1, vi x1), (2, vi x2), (3, vi x3), (4, vi x4), (5, vi x5), (6, vi x6)] [] := by
        intro n92
        induction n92 with
        | zero => intro x1 x2 x3 x4 x5 x6 S1 M1 hx1 hx2 hx3 hx4 hx5 hx6 hm hF; cases hF
        | succ n92 ih92 =>
          intro x1 x2 x3 x4 x5 x6 S1 M1 hx1 hx2 hx3 hx4 hx5 hx6 hm hF
          rw [A_group_l92_e] at hF
          refine go_iload X d_Model_group_92 rfl ?_
          refine go_aload_n X d_Model_group_94 rfl rfl ?_
          refine go_get (v := vr (r + 23)) X f_Model_77 hm.1.1 rfl d_Model_group_95 (s_varr (hm.1.2.2 22 _ rfl).2 (by omega)) ?_
          refine go_iload X d_Model_group_98 rfl ?_
          obtain ⟨hc3, hF4⟩ := chk_t hF
          refine go_iald X (hm.1.2.2 22 _ rfl).1 (by decide) hc3 d_Model_group_100 ?_
          refine go_top (v' := vi (S1 23 x5)) X (congrArg (fun q => vi q) ((hm.a (by decide) x5).trans (rfl))) ?_
          refine go_icmp_ge (tgt := 128) X d_Model_group_101 rfl hx6 (hm.gA (by decide) x5) (fun hq5 => ?_) (fun hq5 => ?_)
          · skip
            have hF6 := if_f hF4 (Int.not_lt.mpr hq5)
            refine go_lv (lv' := [(0, vr r), (1, vi x1), (2, vi x2), (3, vi x3), (4, vi x4), (5, vi x5)]) X [0, 1, 2, 3, 4, 5] rfl ?_
            exact hJ128 x1 x2 x3 x4 x5 S1 M1 hx1 hx2 hx3 hx4 hx5 hm hF6
          · skip
            have hF7 := if_t hF4 hq5
            refine go_iload_n X d_Model_group_104 rfl rfl ?_
            refine go_if_ne (tgt := 128) X d_Model_group_105 rfl hx3 (fun hq8 => ?_) (fun hq8 => ?_)
            · skip
              have hF9 := if_f hF7 hq8
              refine go_lv (lv' := [(0, vr r), (1, vi x1), (2, vi x2), (3, vi x3), (4, vi x4), (5, vi x5)]) X [0, 1, 2, 3, 4, 5] rfl ?_
              exact hJ128 x1 x2 x3 x4 x5 S1 M1 hx1 hx2 hx3 hx4 hx5 hm hF9
            · skip
              have hF10 := if_t hF7 hq8
              refine go_aload_n X d_Model_group_108 rfl rfl ?_
              refine go_bipush (v := 84) X d_Model_group_109 (by decide) ?_
              refine go_aload_n X d_Model_group_111 rfl rfl ?_
              refine go_bipush (v := 82) X d_Model_group_112 (by decide) ?_
              refine go_iload X d_Model_group_114 rfl ?_
              obtain ⟨v11, S12, hG13, hF14⟩ := bnd_t hF10
              refine go_cV (st2 := []) (r := [vi 84, vr r]) X k_Model_99 (a_at l D hm (by decide) hx6 hG13) hm.1.1 rfl rfl (by decide) (Nat.le_of_ble_eq_true rfl) d_Model_group_116 (by decide) (by decide) (fun v' sh' M15 sz' hpp => ?_)
              obtain ⟨e1, e2, e3, hv17, md16⟩ := hpp
              subst e1
              rw [e2, e3]
              clear e2 e3
              show Go g 0 0 sh M15 sz 119 [(0, vr r), (1, vi x1), (2, vi x2), (3, vi x3), (4, vi x4), (5, vi x5), (6, vi x6)] [vi v11, vi 84, vr r]
              obtain ⟨v18, S19, hG20, hF21⟩ := bnd_t hF14
              refine go_cV (st2 := []) (r := []) X k_Model_124 (a_add l D md16 (by decide) hv17 hG20) md16.1.1 rfl rfl (by decide) (Nat.le_of_ble_eq_true rfl) d_Model_group_119 (by decide) (by decide) (fun v' sh' M22 sz' hpp => ?_)
              obtain ⟨e1, e2, e3, md23⟩ := hpp
              subst e1
              rw [e2, e3]
              clear e2 e3
              show Go g 0 0 sh M22 sz 122 [(0, vr r), (1, vi x1), (2, vi x2), (3, vi x3), (4, vi x4), (5, vi x5), (6, vi x6)] []
              obtain ⟨hc25, hF26⟩ := chk_t hF21
              refine go_iinc (v := 1) (x := x6) (lv' := [(6, vi (x6 + 1)), (0, vr r), (1, vi x1), (2, vi x2), (3, vi x3), (4, vi x4), (5, vi x5)]) X d_Model_group_122 rfl (by decide) rfl ?_
              refine go_goto (tgt := 92) X d_Model_group_125 rfl ?_
              refine go_lv (lv' := [(0, vr r), (1, vi x1), (2, vi x2), (3, vi x3), (4, vi x4), (5, vi x5), (6, vi (x6 + 1))]) X [1, 2, 3, 4, 5, 6, 0] rfl ?_
              exact ih92 x1 x2 x3 x4 x5 (x6 + 1) S19 M22 hx1 hx2 hx3 hx4 hx5 hc25 md23 hF26
      have hJ83 : ∀ (x1 x2 x3 x4 x5 : Int) (S1 M1 : s_M), rI x1 → rI x2 → rI x3 → rI x4 → rI x5 → mq sh M0 M1 r S1 → A_group_j83 N (A_group_l6 N n6) x1 x2 x3 x4 x5 S1 = some (v0, S0) → Go g 0 0 sh M1 sz 83 [(0, vr r), (1, vi x1), (2, vi x2), (3, vi x3), (4, vi x4), (5, vi x5)] [] := by
        intro x1 x2 x3 x4 x5 S1 M1 hx1 hx2 hx3 hx4 hx5 hm hF
        rw [A_group_j83_e] at hF
        refine go_aload_n X d_Model_group_83 rfl rfl ?_
        refine go_get (v := vr (r + 22)) X f_Model_74 hm.1.1 rfl d_Model_group_84 (s_varr (hm.1.2.2 21 _ rfl).2 (by omega)) ?_
        refine go_iload X d_Model_group_87 rfl ?_
        obtain ⟨hc27, hF28⟩ := chk_t hF
        refine go_iald X (hm.1.2.2 21 _ rfl).1 (by decide) hc27 d_Model_group_89 ?_
        refine go_top (v' := vi (S1 22 x5)) X (congrArg (fun q => vi q) ((hm.a (by decide) x5).trans (rfl))) ?_
        refine go_istore (lv' := [(6, vi (S1 22 x5)), (0, vr r), (1, vi x1), (2, vi x2), (3, vi x3), (4, vi x4), (5, vi x5)]) X d_Model_group_90 (by decide) rfl ?_
        refine go_lv (lv' := [(0, vr r), (1, vi x1), (2, vi x2), (3, vi x3), (4, vi x4), (5, vi x5), (6, vi (S1 22 x5))]) X [1, 2, 3, 4, 5, 6, 0] rfl ?_
        exact hL92 N x1 x2 x3 x4 x5 (S1 22 x5) S1 M1 hx1 hx2 hx3 hx4 hx5 (hm.gA (by decide) x5) hm hF28
      have hJ65 : ∀ (x1 x2 x3 x5 : Int) (S1 M1 : s_M), rI x1 → rI x2 → rI x3 → rI x5 → mq sh M0 M1 r S1 → A_group_j65 N (A_group_l6 N n6) x1 x2 x3 x5 S1 = some (v0, S0) → Go g 0 0 sh M1 sz 65 [(0, vr r), (1, vi x1), (2, vi x2), (3, vi x3), (5, vi x5)] [] := by
        intro x1 x2 x3 x5 S1 M1 hx1 hx2 hx3 hx5 hm hF
        rw [A_group_j65_e] at hF
        refine go_aload_n X d_Model_group_65 rfl rfl ?_
        refine go_iconst (v := 1) X d_Model_group_66 ?_
        refine go_put (x := 1) (v := vi 1) X f_Model_357 hm.1.1 rfl d_Model_group_67 rfl (n_nz (by decide)) (n_fz (by decide)) ?_
        have md29 : mq sh M0 (m_s M1 r 43 1) r (m_s S1 0 43 1) := hm.put0 (by decide) ((rg_B (by decide) (by decide) (by decide)))
        generalize m_s M1 r 43 1 = M30 at md29 ⊢
        refine go_iconst (v := 1) X d_Model_group_70 ?_
        refine go_istore (lv' := [(4, vi 1), (0, vr r), (1, vi x1), (2, vi x2), (3, vi x3), (5, vi x5)]) X d_Model_group_71 (by decide) rfl ?_
        refine go_iload_n X d_Model_group_73 rfl rfl ?_
        refine go_if_eq (tgt := 83) X d_Model_group_74 rfl hx3 (fun hq31 => ?_) (fun hq31 => ?_)
        · skip
          have hF32 := if_t hF hq31
          refine go_lv (lv' := [(0, vr r), (1, vi x1), (2, vi x2), (3, vi x3), (4, vi 1), (5, vi x5)]) X [1, 2, 3, 4, 0, 5] rfl ?_
          exact hJ83 x1 x2 x3 1 x5 (m_s S1 0 43 1) M30 hx1 hx2 hx3 (by decide) hx5 md29 hF32
        · skip
          have hF33 := if_f hF hq31
          refine go_aload_n X d_Model_group_77 rfl rfl ?_
          refine go_iload X d_Model_group_78 rfl ?_
          obtain ⟨v34, S35, hG36, hF37⟩ := bnd_t hF33
          refine go_cV (st2 := []) (r := []) X k_Model_360 (a_initial l D md29 hx5 hG36) md29.1.1 rfl rfl (by decide) (Nat.le_of_ble_eq_true rfl) d_Model_group_80 (by decide) (by decide) (fun v' sh' M38 sz' hpp => ?_)
          obtain ⟨e1, e2, e3, md39⟩ := hpp
          subst e1
          rw [e2, e3]
          clear e2 e3
          show Go g 0 0 sh M38 sz 83 [(4, vi 1), (0, vr r), (1, vi x1), (2, vi x2), (3, vi x3), (5, vi x5)] []
          refine go_lv (lv' := [(0, vr r), (1, vi x1), (2, vi x2), (3, vi x3), (4, vi 1), (5, vi x5)]) X [1, 2, 3, 4, 0, 5] rfl ?_
          exact hJ83 x1 x2 x3 1 x5 S35 M38 hx1 hx2 hx3 (by decide) hx5 md39 hF37
      have hJ50 : ∀ (x1 x2 x3 x5 : Int) (S1 M1 : s_M), rI x1 → rI x2 → rI x3 → rI x5 → mq sh M0 M1 r S1 → A_group_j50 N (A_group_l6 N n6) x1 x2 x3 x5 S1 = some (v0, S0) → Go g 0 0 sh M1 sz 50 [(0, vr r), (1, vi x1), (2, vi x2), (3, vi x3), (5, vi x5)] [] := by
        intro x1 x2 x3 x5 S1 M1 hx1 hx2 hx3 hx5 hm hF
        rw [A_group_j50_e] at hF
        refine go_aload_n X d_Model_group_50 rfl rfl ?_
        refine go_get (v := vi (S1 0 43)) X f_Model_357 hm.1.1 rfl d_Model_group_51 (congrArg (s_v .boolean) ((hm.s 43).trans (rfl))) ?_
        refine go_if_eq (tgt := 65) X d_Model_group_54 rfl (rI_z (hm.gB 43 (by decide) (by decide))) (fun hq41 => ?_) (fun hq41 => ?_)
        · skip
          have hF42 := if_t hF hq41
          refine go_lv (lv' := [(0, vr r), (1, vi x1), (2, vi x2), (3, vi x3), (5, vi x5)]) X [0, 1, 2, 3, 4] rfl ?_
          exact hJ65 x1 x2 x3 x5 S1 M1 hx1 hx2 hx3 hx5 hm hF42
        · skip
          have hF43 := if_f hF hq41
          refine go_aload_n X d_Model_group_57 rfl rfl ?_
          refine go_bipush (v := 84) X d_Model_group_58 (by decide) ?_
          refine go_bipush (v := 32) X d_Model_group_60 (by decide) ?_
          obtain ⟨v44, S45, hG46, hF47⟩ := bnd_t hF43
          refine go_cV (st2 := []) (r := []) X k_Model_124 (a_add l D hm (by decide) (by decide) hG46) hm.1.1 rfl rfl (by decide) (Nat.le_of_ble_eq_true rfl) d_Model_group_62 (by decide) (by decide) (fun v' sh' M48 sz' hpp => ?_)
          obtain ⟨e1, e2, e3, md49⟩ := hpp
          subst e1
          rw [e2, e3]
          clear e2 e3
          show Go g 0 0 sh M48 sz 65 [(0, vr r), (1, vi x1), (2, vi x2), (3, vi x3), (5, vi x5)] []
          refine go_lv (lv' := [(0, vr r), (1, vi x1), (2, vi x2), (3, vi x3), (5, vi x5)]) X [0, 1, 2, 3, 4] rfl ?_
          exact hJ65 x1 x2 x3 x5 S45 M48 hx1 hx2 hx3 hx5 md49 hF47
      intro x1 x2 x3 x4 x5 S1 M1 hx1 hx2 hx3 hx4 hx5 hm hF
      rw [A_group_l6_e] at hF
      refine go_iload X d_Model_group_6 rfl ?_
      refine go_aload_n X d_Model_group_8 rfl rfl ?_
      refine go_get (v := vi (S1 0 37)) X f_Model_348 hm.1.1 rfl d_Model_group_9 (congrArg (s_v .int) ((hm.s 37).trans (rfl))) ?_
      refine go_icmp_ge (tgt := 134) X d_Model_group_12 rfl hx5 (hm.gS 37 (by decide) (by decide)) (fun hq51 => ?_) (fun hq51 => ?_)
      · skip
        have hF52 := if_f hF (Int.not_lt.mpr hq51)
        exact go_vret X d_Model_group_134 rfl (by decide) (by decide) (ret_v hF52 hm)
      · skip
        have hF53 := if_t hF hq51
        refine go_aload_n X d_Model_group_15 rfl rfl ?_
        refine go_get (v := vr (r + 25)) X f_Model_83 hm.1.1 rfl d_Model_group_16 (s_varr (hm.1.2.2 24 _ rfl).2 (by omega)) ?_
        refine go_iload X d_Model_group_19 rfl ?_
        obtain ⟨hc54, hF55⟩ := chk_t hF53
        refine go_iald X (hm.1.2.2 24 _ rfl).1 (by decide) hc54 d_Model_group_21 ?_
        refine go_top (v' := vi (S1 25 x5)) X (congrArg (fun q => vi q) ((hm.a (by decide) x5).trans (rfl))) ?_
        refine go_iload_n X d_Model_group_22 rfl rfl ?_
        refine go_icmp_ne (tgt := 128) X d_Model_group_23 rfl (hm.gA (by decide) x5) hx1 (fun hq56 => ?_) (fun hq56 => ?_)
        · skip
          have hF57 := if_f hF55 hq56
          refine go_lv (lv' := [(0, vr r), (1, vi x1), (2, vi x2), (3, vi x3), (4, vi x4), (5, vi x5)]) X [0, 1, 2, 3, 4, 5] rfl ?_
          exact hJ128 x1 x2 x3 x4 x5 S1 M1 hx1 hx2 hx3 hx4 hx5 hm hF57
        · skip
          have hF58 := if_t hF55 hq56
          refine go_aload_n X d_Model_group_26 rfl rfl ?_
          refine go_get (v := vi (S1 0 43)) X f_Model_357 hm.1.1 rfl d_Model_group_27 (congrArg (s_v .boolean) ((hm.s 43).trans (rfl))) ?_
          refine go_if_eq (tgt := 50) X d_Model_group_30 rfl (rI_z (hm.gB 43 (by decide) (by decide))) (fun hq59 => ?_) (fun hq59 => ?_)
          · skip
            have hF60 := if_t hF58 hq59
            refine go_lv (lv' := [(0, vr r), (1, vi x1), (2, vi x2), (3, vi x3), (5, vi x5)]) X [0, 1, 2, 3, 5] rfl ?_
            exact hJ50 x1 x2 x3 x5 S1 M1 hx1 hx2 hx3 hx5 hm hF60
          · skip
            have hF61 := if_f hF58 hq59
            refine go_iload X d_Model_group_33 rfl ?_
            refine go_if_ne (tgt := 50) X d_Model_group_35 rfl hx4 (fun hq62 => ?_) (fun hq62 => ?_)
            · skip
              have hF63 := if_f hF61 hq62
              refine go_lv (lv' := [(0, vr r), (1, vi x1), (2, vi x2), (3, vi x3), (5, vi x5)]) X [0, 1, 2, 3, 5] rfl ?_
              exact hJ50 x1 x2 x3 x5 S1 M1 hx1 hx2 hx3 hx5 hm hF63
            · skip
              have hF64 := if_t hF61 hq62
              refine go_iload_n X d_Model_group_38 rfl rfl ?_
              refine go_if_eq (tgt := 50) X d_Model_group_39 rfl hx2 (fun hq65 => ?_) (fun hq65 => ?_)
              · skip
                have hF66 := if_t hF64 hq65
                refine go_lv (lv' := [(0, vr r), (1, vi x1), (2, vi x2), (3, vi x3), (5, vi x5)]) X [0, 1, 2, 3, 5] rfl ?_
                exact hJ50 x1 x2 x3 x5 S1 M1 hx1 hx2 hx3 hx5 hm hF66
              · skip
                have hF67 := if_f hF64 hq65
                refine go_aload_n X d_Model_group_42 rfl rfl ?_
                refine go_bipush (v := 84) X d_Model_group_43 (by decide) ?_
                refine go_bipush (v := 44) X d_Model_group_45 (by decide) ?_
                obtain ⟨v68, S69, hG70, hF71⟩ := bnd_t hF67
                refine go_cV (st2 := []) (r := []) X k_Model_124 (a_add l D hm (by decide) (by decide) hG70) hm.1.1 rfl rfl (by decide) (Nat.le_of_ble_eq_true rfl) d_Model_group_47 (by decide) (by decide) (fun v' sh' M72 sz' hpp => ?_)
                obtain ⟨e1, e2, e3, md73⟩ := hpp
                subst e1
                rw [e2, e3]
                clear e2 e3
                show Go g 0 0 sh M72 sz 50 [(0, vr r), (1, vi x1), (2, vi x2), (3, vi x3), (4, vi x4), (5, vi x5)] []
                refine go_lv (lv' := [(0, vr r), (1, vi x1), (2, vi x2), (3, vi x3), (5, vi x5)]) X [0, 1, 2, 3, 5] rfl ?_
                exact hJ50 x1 x2 x3 x5 S69 M72 hx1 hx2 hx3 hx5 md73 hF71
  rw [A_group_e] at hF
  refine go_iconst (v := 0) X d_Model_group_0 ?_
  refine go_istore (lv' := [(4, vi 0), (0, vr r), (1, vi x1), (2, vi x2), (3, vi x3)]) X d_Model_group_1 (by decide) rfl ?_
  refine go_iconst (v := 0) X d_Model_group_3 ?_
  refine go_istore (lv' := [(5, vi 0), (4, vi 0), (0, vr r), (1, vi x1), (2, vi x2), (3, vi x3)]) X d_Model_group_4 (by decide) rfl ?_
  refine go_lv (lv' := [(0, vr r), (1, vi x1), (2, vi x2), (3, vi x3), (4, vi 0), (5, vi 0)]) X [2, 3, 4, 5, 1, 0] rfl ?_
  exact hL6 N x1 x2 x3 0 0 S M hx1 hx2 hx3 (by decide) (by decide) h hF
def A_low_j50 (N : Nat) (k9 : Int → Int → Int → s_M → rO) (x1 x2 x3 x4 : Int) (S : s_M) : rO := chk (rI (x2 + (if x4 = 123 then (1 : Int) else (if x4 = 125 then (if 0 < x2 then ((-1) : Int) else 0 : Int) else 0)))) <| chk (rI (x3 + 1)) <| k9 x1 (x2 + (if x4 = 123 then (1 : Int) else (if x4 = 125 then (if 0 < x2 then ((-1) : Int) else 0 : Int) else 0))) (x3 + 1) S
theorem A_low_j50_e (N : Nat) (k9 : Int → Int → Int → s_M → rO) (x1 x2 x3 x4 : Int) (S : s_M) : A_low_j50 N k9 x1 x2 x3 x4 S = (chk (rI (x2 + (if x4 = 123 then (1 : Int) else (if x4 = 125 then (if 0 < x2 then ((-1) : Int) else 0 : Int) else 0)))) <| chk (rI (x3 + 1)) <| k9 x1 (x2 + (if x4 = 123 then (1 : Int) else (if x4 = 125 then (if 0 < x2 then ((-1) : Int) else 0 : Int) else 0))) (x3 + 1) S) := rfl
def A_low_l9 (N : Nat) : Nat → Int → Int → Int → s_M → rO
  | 0, _, _, _, _ => none
  | n + 1, x1, x2, x3, S => chk (0 ≤ x1 ∧ x1 < 40) <| if x3 < (S 23 x1) then (bnd (A_at N 82 x3 S) fun v14 S15 => if x2 = 0 then (if (p_let v14) = true then (some (s_b (decide (97 ≤ v14 ∧ v14 ≤ 122)), S15)) else (A_low_j50 N (A_low_l9 N n) x1 x2 x3 v14 S15)) else (A_low_j50 N (A_low_l9 N n) x1 x2 x3 v14 S15)) else (some (0, S))
theorem A_low_l9_e (N : Nat) (n : Nat) (x1 x2 x3 : Int) (S : s_M) : A_low_l9 N (n + 1) x1 x2 x3 S = (chk (0 ≤ x1 ∧ x1 < 40) <| if x3 < (S 23 x1) then (bnd (A_at N 82 x3 S) fun v14 S15 => if x2 = 0 then (if (p_let v14) = true then (some (s_b (decide (97 ≤ v14 ∧ v14 ≤ 122)), S15)) else (A_low_j50 N (A_low_l9 N n) x1 x2 x3 v14 S15)) else (A_low_j50 N (A_low_l9 N n) x1 x2 x3 v14 S15)) else (some (0, S))) := rfl
def A_low (N : Nat) (x1 : Int) (S : s_M) : rO := chk (0 ≤ x1 ∧ x1 < 40) <| A_low_l9 N N x1 0 (S 22 x1) S
theorem A_low_e (N : Nat) (x1 : Int) (S : s_M) : A_low N x1 S = (chk (0 ≤ x1 ∧ x1 < 40) <| A_low_l9 N N x1 0 (S 22 x1) S) := rfl
set_option maxHeartbeats 4000000 in
set_option maxRecDepth 100000 in
theorem a_low (l : Launch) (D : va_G) {sh : s_S} {M0 M : s_M} {sz r x1 : Int} {N : Nat} {S S0 : s_M} {v0 : Int} (h : mq sh M0 M r S) (hx1 : rI x1) (hF : A_low N x1 S = some (v0, S0)) : Sp l D y_Model_low prog_14_method_75_code 5 (some .boolean) 3 0 0 [vr r, vi x1] sh M sz (fun v' sh' M' sz' => v' = some (vi v0) ∧ sh' = sh ∧ sz' = sz ∧ rI v0 ∧ mq sh M0 M' r S0) := by
  have hr0 := h.1.2.1
  refine Sp.ofGo (own := "CiteForgeModel") (nm := "low") (by decide) rfl rfl (Nat.le_of_ble_eq_true rfl) (lv := [(0, vr r), (1, vi x1)]) rfl ?_
  intro g X
  have hL9 : ∀ (n9 : Nat) (x1 x2 x3 : Int) (S1 M1 : s_M), rI x1 → rI x2 → rI x3 → mq sh M0 M1 r S1 → A_low_l9 N n9 x1 x2 x3 S1 = some (v0, S0) → Go g 0 0 sh M1 sz 9 [(0, vr r), (1, vi x1), (2, vi x2), (3, vi x3)] [] := by
    intro n9
    induction n9 with
    | zero => intro x1 x2 x3 S1 M1 hx1 hx2 hx3 hm hF; cases hF
    | succ n9 ih9 =>
      have hJ50 : ∀ (x1 x2 x3 x4 : Int) (S1 M1 : s_M), rI x1 → rI x2 → rI x3 → rI x4 → mq sh M0 M1 r S1 → A_low_j50 N (A_low_l9 N n9) x1 x2 x3 x4 S1 = some (v0, S0) → Go g 0 0 sh M1 sz 50 [(0, vr r), (1, vi x1), (2, vi x2), (3, vi x3), (4, vi x4)] [] := by
        intro x1 x2 x3 x4 S1 M1 hx1 hx2 hx3 hx4 hm hF
        rw [A_low_j50_e] at hF
        refine go_iload_n X d_Model_low_50 rfl rfl ?_
        refine go_iload X d_Model_low_51 rfl ?_
        refine go_bipush (v := 123) X d_Model_low_53 (by decide) ?_
        suffices hv1 : Go g 0 0 sh M1 sz 78 [(0, vr r), (1, vi x1), (2, vi x2), (3, vi x3), (4, vi x4)] [vi (if x4 = 123 then (1 : Int) else (if x4 = 125 then (if 0 < x2 then ((-1) : Int) else 0 : Int) else 0)), vi x2] by
          refine go_icmp_ne (tgt := 62) X d_Model_low_55 rfl hx4 (by decide) (fun hq2 => ?_) (fun hq2 => ?_)
          · skip
            refine go_iload X d_Model_low_62 rfl ?_
            refine go_bipush (v := 125) X d_Model_low_64 (by decide) ?_
            refine go_icmp_ne (tgt := 77) X d_Model_low_66 rfl hx4 (by decide) (fun hq3 => ?_) (fun hq3 => ?_)
            · skip
              refine go_iconst (v := 0) X d_Model_low_77 ?_
              refine go_top (v' := vi (if x4 = 123 then (1 : Int) else (if x4 = 125 then (if 0 < x2 then ((-1) : Int) else 0 : Int) else 0))) X (congrArg (fun q => vi q) (show 0 = if x4 = 123 then (1 : Int) else (if x4 = 125 then (if 0 < x2 then ((-1) : Int) else 0 : Int) else 0) from ((if_neg hq2).trans ((if_neg hq3))).symm)) ?_
              exact hv1
            · skip
              refine go_iload_n X d_Model_low_69 rfl rfl ?_
              refine go_if_le (tgt := 77) X d_Model_low_70 rfl hx2 (fun hq4 => ?_) (fun hq4 => ?_)
              · skip
                refine go_iconst (v := 0) X d_Model_low_77 ?_
                refine go_top (v' := vi (if x4 = 123 then (1 : Int) else (if x4 = 125 then (if 0 < x2 then ((-1) : Int) else 0 : Int) else 0))) X (congrArg (fun q => vi q) (show 0 = if x4 = 123 then (1 : Int) else (if x4 = 125 then (if 0 < x2 then ((-1) : Int) else 0 : Int) else 0) from ((if_neg hq2).trans ((if_pos hq3).trans ((if_neg (Int.not_lt.mpr hq4))))).symm)) ?_
                exact hv1
              · skip
                refine go_iconst (v := (-1)) X d_Model_low_73 ?_
                refine go_goto (tgt := 78) X d_Model_low_74 rfl ?_
                refine go_top (v' := vi (if x4 = 123 then (1 : Int) else (if x4 = 125 then (if 0 < x2 then ((-1) : Int) else 0 : Int) else 0))) X (congrArg (fun q => vi q) (show (-1) = if x4 = 123 then (1 : Int) else (if x4 = 125 then (if 0 < x2 then ((-1) : Int) else 0 : Int) else 0) from ((if_neg hq2).trans ((if_pos hq3).trans ((if_pos hq4)))).symm)) ?_
                exact hv1
          · skip
            refine go_iconst (v := 1) X d_Model_low_58 ?_
            refine go_goto (tgt := 78) X d_Model_low_59 rfl ?_
            refine go_top (v' := vi (if x4 = 123 then (1 : Int) else (if x4 = 125 then (if 0 < x2 then ((-1) : Int) else 0 : Int) else 0))) X (congrArg (fun q => vi q) (show 1 = if x4 = 123 then (1 : Int) else (if x4 = 125 then (if 0 < x2 then ((-1) : Int) else 0 : Int) else 0) from ((if_pos hq2)).symm)) ?_
            exact hv1
        refine go_iadd X d_Model_low_78 ?_
        obtain ⟨hc5, hF6⟩ := chk_t hF
        refine go_istore_n (lv' := [(2, vi (x2 + (if x4 = 123 then (1 : Int) else (if x4 = 125 then (if 0 < x2 then ((-1) : Int) else 0 : Int) else 0)))), (0, vr r), (1, vi x1), (3, vi x3), (4, vi x4)]) X d_Model_low_79 rfl (by decide) rfl ?_
        obtain ⟨hc7, hF8⟩ := chk_t hF6
        refine go_iinc (v := 1) (x := x3) (lv' := [(3, vi (x3 + 1)), (2, vi (x2 + (if x4 = 123 then (1 : Int) else (if x4 = 125 then (if 0 < x2 then ((-1) : Int) else 0 : Int) else 0)))), (0, vr r), (1, vi x1), (4, vi x4)]) X d_Model_low_80 rfl (by decide) rfl ?_
        refine go_goto (tgt := 9) X d_Model_low_83 rfl ?_
        refine go_lv (lv' := [(0, vr r), (1, vi x1), (2, vi (x2 + (if x4 = 123 then (1 : Int) else (if x4 = 125 then (if 0 < x2 then ((-1) : Int) else 0 : Int) else 0)))), (3, vi (x3 + 1))]) X [2, 3, 1, 0] rfl ?_
        exact ih9 x1 (x2 + (if x4 = 123 then (1 : Int) else (if x4 = 125 then (if 0 < x2 then ((-1) : Int) else 0 : Int) else 0))) (x3 + 1) S1 M1 hx1 hc5 hc7 hm hF8
      intro x1 x2 x3 S1 M1 hx1 hx2 hx3 hm hF
      rw [A_low_l9_e] at hF
      refine go_iload_n X d_Model_low_9 rfl rfl ?_
      refine go_aload_n X d_Model_low_10 rfl rfl ?_
      refine go_get (v := vr (r + 23)) X f_Model_77 hm.1.1 rfl d_Model_low_11 (s_varr (hm.1.2.2 22 _ rfl).2 (by omega)) ?_
      refine go_iload_n X d_Model_low_14 rfl rfl ?_
      obtain ⟨hc9, hF10⟩ := chk_t hF
      refine go_iald X (hm.1.2.2 22 _ rfl).1 (by decide) hc9 d_Model_low_15 ?_
      refine go_top (v' := vi (S1 23 x1)) X (congrArg (fun q => vi q) ((hm.a (by decide) x1).trans (rfl))) ?_
      refine go_icmp_ge (tgt := 86) X d_Model_low_16 rfl hx3 (hm.gA (by decide) x1) (fun hq11 => ?_) (fun hq11 => ?_)
      · skip
        have hF12 := if_f hF10 (Int.not_lt.mpr hq11)
        refine go_iconst (v := 0) X d_Model_low_86 ?_
        exact go_iret X d_Model_low_87 rfl (n_nz (by decide)) (by decide) (by decide) (ret_i hF12 (by decide) hm)
      · skip
        have hF13 := if_t hF10 hq11
        refine go_aload_n X d_Model_low_19 rfl rfl ?_
        refine go_bipush (v := 82) X d_Model_low_20 (by decide) ?_
        refine go_iload_n X d_Model_low_22 rfl rfl ?_
        obtain ⟨v14, S15, hG16, hF17⟩ := bnd_t hF13
        refine go_cV (st2 := []) (r := []) X k_Model_99 (a_at l D hm (by decide) hx3 hG16) hm.1.1 rfl rfl (by decide) (Nat.le_of_ble_eq_true rfl) d_Model_low_23 (by decide) (by decide) (fun v' sh' M18 sz' hpp => ?_)
        obtain ⟨e1, e2, e3, hv20, md19⟩ := hpp
        subst e1
        rw [e2, e3]
        clear e2 e3
        show Go g 0 0 sh M18 sz 26 [(0, vr r), (1, vi x1), (2, vi x2), (3, vi x3)] [vi v14]
        refine go_istore (lv' := [(4, vi v14), (0, vr r), (1, vi x1), (2, vi x2), (3, vi x3)]) X d_Model_low_26 (by decide) rfl ?_
        refine go_iload_n X d_Model_low_28 rfl rfl ?_
        refine go_if_ne (tgt := 50) X d_Model_low_29 rfl hx2 (fun hq21 => ?_) (fun hq21 => ?_)
        · skip
          have hF22 := if_f hF17 hq21
          refine go_lv (lv' := [(0, vr r), (1, vi x1), (2, vi x2), (3, vi x3), (4, vi v14)]) X [1, 2, 3, 4, 0] rfl ?_
          exact hJ50 x1 x2 x3 v14 S15 M18 hx1 hx2 hx3 hv20 md19 hF22
        · skip
          have hF23 := if_t hF17 hq21
          refine go_iload X d_Model_low_32 rfl ?_
          refine go_cSf (st2 := [vi (s_b (p_let v14))]) (r := []) X k_Model_107 (m_isLetter l D hv20) rfl rfl (by decide) (Nat.le_of_ble_eq_true rfl) d_Model_low_34 (by decide) (by decide) rfl ?_
          refine go_ifb_eq (tgt := 50) X d_Model_low_37 rfl (fun hq24 => ?_) (fun hq24 => ?_)
          · skip
            have hF25 := if_f hF23 (bnf hq24)
            refine go_lv (lv' := [(0, vr r), (1, vi x1), (2, vi x2), (3, vi x3), (4, vi v14)]) X [1, 2, 3, 4, 0] rfl ?_
            exact hJ50 x1 x2 x3 v14 S15 M18 hx1 hx2 hx3 hv20 md19 hF25
          · skip
            have hF26 := if_t hF23 hq24
            refine go_iload X d_Model_low_40 rfl ?_
            refine go_bipush (v := 97) X d_Model_low_42 (by decide) ?_
            refine go_bipush (v := 122) X d_Model_low_44 (by decide) ?_
            refine go_cSf (st2 := [vi (s_b (decide (97 ≤ v14 ∧ v14 ≤ 122)))]) (r := []) X k_Model_103 (m_within l D hv20 (by decide) (by decide)) rfl rfl (by decide) (Nat.le_of_ble_eq_true rfl) d_Model_low_46 (by decide) (by decide) rfl ?_
            exact go_iret X d_Model_low_49 rfl (n_nz (z_b _)) (by decide) (by decide) (ret_i hF26 (rI_b _) md19)
  rw [A_low_e] at hF
  refine go_iconst (v := 0) X d_Model_low_0 ?_
  refine go_istore_n (lv' := [(2, vi 0), (0, vr r), (1, vi x1)]) X d_Model_low_1 rfl (by decide) rfl ?_
  refine go_aload_n X d_Model_low_2 rfl rfl ?_
  refine go_get (v := vr (r + 22)) X f_Model_74 h.1.1 rfl d_Model_low_3 (s_varr (h.1.2.2 21 _ rfl).2 (by omega)) ?_
  refine go_iload_n X d_Model_low_6 rfl rfl ?_
  obtain ⟨hc27, hF28⟩ := chk_t hF
  refine go_iald X (h.1.2.2 21 _ rfl).1 (by decide) hc27 d_Model_low_7 ?_
  refine go_top (v' := vi (S 22 x1)) X (congrArg (fun q => vi q) ((h.a (by decide) x1).trans (rfl))) ?_
  refine go_istore_n (lv' := [(3, vi (S 22 x1)), (2, vi 0), (0, vr r), (1, vi x1)]) X d_Model_low_8 rfl (by decide) rfl ?_
  refine go_lv (lv' := [(0, vr r), (1, vi x1), (2, vi 0), (3, vi (S 22 x1))]) X [2, 3, 1, 0] rfl ?_
  exact hL9 N x1 0 (S 22 x1) S M hx1 (by decide) (h.gA (by decide) x1) h hF28
def A_roles_j206 (N : Nat) (k72 : Int → Int → Int → Int → s_M → rO) (x1 x2 x3 x4 : Int) (S : s_M) : rO := chk (rI (x4 + 1)) <| k72 x1 x2 x3 (x4 + 1) S
theorem A_roles_j206_e (N : Nat) (k72 : Int → Int → Int → Int → s_M → rO) (x1 x2 x3 x4 : Int) (S : s_M) : A_roles_j206 N k72 x1 x2 x3 x4 S = (chk (rI (x4 + 1)) <| k72 x1 x2 x3 (x4 + 1) S) := rfl
def A_roles_l72 (N : Nat) : Nat → Int → Int → Int → Int → s_M → rO
  | 0, _, _, _, _, _ => none
  | n + 1, x1, x2, x3, x4, S => if x4 < (S 0 37) then (chk (0 ≤ x4 ∧ x4 < 40) <| if 0 < (S 24 x4) then (chk (0 ≤ x4 ∧ x4 < 40) <| chk (rI ((S 0 38) - 1)) <| chk (0 ≤ x4 ∧ x4 < 40) <| A_roles_j206 N (A_roles_l72 N n) x1 x2 x3 x4 (m_s S 25 x4 (if (S 24 x4) = ((S 0 38) - 1) then (0 : Int) else 3))) else (if 1 < (S 0 38) then (chk (0 ≤ x4 ∧ x4 < 40) <| A_roles_j206 N (A_roles_l72 N n) x1 x2 x3 x4 (m_s S 25 x4 (if x3 < x4 then (2 : Int) else 1))) else (if x3 < 0 then (chk (rI (x1 - 1)) <| chk (0 ≤ x4 ∧ x4 < 40) <| A_roles_j206 N (A_roles_l72 N n) x1 x2 x3 x4 (m_s S 25 x4 (if x4 = (x1 - 1) then (2 : Int) else 0))) else (chk (0 ≤ x4 ∧ x4 < 40) <| A_roles_j206 N (A_roles_l72 N n) x1 x2 x3 x4 (m_s S 25 x4 (if x4 < x2 then (0 : Int) else (if x3 < x4 then (2 : Int) else 1))))))) else (some (0, S))
theorem A_roles_l72_e (N : Nat) (n : Nat) (x1 x2 x3 x4 : Int) (S : s_M) : A_roles_l72 N (n + 1) x1 x2 x3 x4 S = (if x4 < (S 0 37) then (chk (0 ≤ x4 ∧ x4 < 40) <| if 0 < (S 24 x4) then (chk (0 ≤ x4 ∧ x4 < 40) <| chk (rI ((S 0 38) - 1)) <| chk (0 ≤ x4 ∧ x4 < 40) <| A_roles_j206 N (A_roles_l72 N n) x1 x2 x3 x4 (m_s S 25 x4 (if (S 24 x4) = ((S 0 38) - 1) then (0 : Int) else 3))) else (if 1 < (S 0 38) then (chk (0 ≤ x4 ∧ x4 < 40) <| A_roles_j206 N (A_roles_l72 N n) x1 x2 x3 x4 (m_s S 25 x4 (if x3 < x4 then (2 : Int) else 1))) else (if x3 < 0 then (chk (rI (x1 - 1)) <| chk (0 ≤ x4 ∧ x4 < 40) <| A_roles_j206 N (A_roles_l72 N n) x1 x2 x3 x4 (m_s S 25 x4 (if x4 = (x1 - 1) then (2 : Int) else 0))) else (chk (0 ≤ x4 ∧ x4 < 40) <| A_roles_j206 N (A_roles_l72 N n) x1 x2 x3 x4 (m_s S 25 x4 (if x4 < x2 then (0 : Int) else (if x3 < x4 then (2 : Int) else 1))))))) else (some (0, S))) := rfl
def A_roles_j63 (N : Nat) (k32 : Int → Int → Int → Int → s_M → rO) (x1 x2 x3 x4 : Int) (S : s_M) : rO := chk (rI (x4 + 1)) <| k32 x1 x2 x3 (x4 + 1) S
theorem A_roles_j63_e (N : Nat) (k32 : Int → Int → Int → Int → s_M → rO) (x1 x2 x3 x4 : Int) (S : s_M) : A_roles_j63 N k32 x1 x2 x3 x4 S = (chk (rI (x4 + 1)) <| k32 x1 x2 x3 (x4 + 1) S) := rfl
def A_roles_l32 (N : Nat) : Nat → Int → Int → Int → Int → s_M → rO
  | 0, _, _, _, _, _ => none
  | n + 1, x1, x2, x3, x4, S => chk (rI (x1 - 1)) <| if x4 < (x1 - 1) then (bnd (A_low N x4 S) fun v55 S56 => if v55 = 0 then (A_roles_j63 N (A_roles_l32 N n) x1 x2 x3 x4 S56) else (A_roles_j63 N (A_roles_l32 N n) x1 (if x2 < 0 then (x4 : Int) else x2) x4 x4 S56)) else (A_roles_l72 N N x1 x2 x3 0 S)
theorem A_roles_l32_e (N : Nat) (n : Nat) (x1 x2 x3 x4 : Int) (S : s_M) : A_roles_l32 N (n + 1) x1 x2 x3 x4 S = (chk (rI (x1 - 1)) <| if x4 < (x1 - 1) then (bnd (A_low N x4 S) fun v55 S56 => if v55 = 0 then (A_roles_j63 N (A_roles_l32 N n) x1 x2 x3 x4 S56) else (A_roles_j63 N (A_roles_l32 N n) x1 (if x2 < 0 then (x4 : Int) else x2) x4 x4 S56)) else (A_roles_l72 N N x1 x2 x3 0 S)) := rfl
def A_roles_j25 (N : Nat) (x1 : Int) (S : s_M) : rO := A_roles_l32 N N x1 (-1) (-1) 0 S
theorem A_roles_j25_e (N : Nat) (x1 : Int) (S : s_M) : A_roles_j25 N x1 S = (A_roles_l32 N N x1 (-1) (-1) 0 S) := rfl
def A_roles_l2 (N : Nat) : Nat → Int → s_M → rO
  | 0, _, _ => none
  | n + 1, x1, S => if x1 < (S 0 37) then (chk (0 ≤ x1 ∧ x1 < 40) <| if (S 24 x1) = 0 then (chk (rI (x1 + 1)) <| (A_roles_l2 N n) (x1 + 1) S) else (A_roles_j25 N x1 S)) else (A_roles_j25 N x1 S)
theorem A_roles_l2_e (N : Nat) (n : Nat) (x1 : Int) (S : s_M) : A_roles_l2 N (n + 1) x1 S = (if x1 < (S 0 37) then (chk (0 ≤ x1 ∧ x1 < 40) <| if (S 24 x1) = 0 then (chk (rI (x1 + 1)) <| (A_roles_l2 N n) (x1 + 1) S) else (A_roles_j25 N x1 S)) else (A_roles_j25 N x1 S)) := rfl
def A_roles (N : Nat) (S : s_M) : rO := A_roles_l2 N N 0 S
theorem A_roles_e (N : Nat) (S : s_M) : A_roles N S = (A_roles_l2 N N 0 S) := rfl
set_option maxHeartbeats 4000000 in
set_option maxRecDepth 100000 in
theorem a_roles (l : Launch) (D : va_G) {sh : s_S} {M0 M : s_M} {sz r  : Int} {N : Nat} {S S0 : s_M} {v0 : Int} (h : mq sh M0 M r S) (hF : A_roles N S = some (v0, S0)) : Sp l D y_Model_roles prog_14_method_76_code 5 none 4 0 0 [vr r] sh M sz (fun v' sh' M' sz' => v' = none ∧ sh' = sh ∧ sz' = sz ∧ mq sh M0 M' r S0) := by
  have hr0 := h.1.2.1
  refine Sp.ofGo (own := "CiteForgeModel") (nm := "roles") (by decide) rfl rfl (Nat.le_of_ble_eq_true rfl) (lv := [(0, vr r)]) rfl ?_
  intro g X
  have hL72 : ∀ (n72 : Nat) (x1 x2 x3 x4 : Int) (S1 M1 : s_M), rI x1 → rI x2 → rI x3 → rI x4 → mq sh M0 M1 r S1 → A_roles_l72 N n72 x1 x2 x3 x4 S1 = some (v0, S0) → Go g 0 0 sh M1 sz 72 [(0, vr r), (1, vi x1), (2, vi x2), (3, vi x3), (4, vi x4)] [] := by
    intro n72
    induction n72 with
    | zero => intro x1 x2 x3 x4 S1 M1 hx1 hx2 hx3 hx4 hm hF; cases hF
    | succ n72 ih72 =>
      have hJ206 : ∀ (x1 x2 x3 x4 : Int) (S1 M1 : s_M), rI x1 → rI x2 → rI x3 → rI x4 → mq sh M0 M1 r S1 → A_roles_j206 N (A_roles_l72 N n72) x1 x2 x3 x4 S1 = some (v0, S0) → Go g 0 0 sh M1 sz 206 [(0, vr r), (1, vi x1), (2, vi x2), (3, vi x3), (4, vi x4)] [] := by
        intro x1 x2 x3 x4 S1 M1 hx1 hx2 hx3 hx4 hm hF
        rw [A_roles_j206_e] at hF
        obtain ⟨hc1, hF2⟩ := chk_t hF
        refine go_iinc (v := 1) (x := x4) (lv' := [(4, vi (x4 + 1)), (0, vr r), (1, vi x1), (2, vi x2), (3, vi x3)]) X d_Model_roles_206 rfl (by decide) rfl ?_
        refine go_goto (tgt := 72) X d_Model_roles_209 rfl ?_
        refine go_lv (lv' := [(0, vr r), (1, vi x1), (2, vi x2), (3, vi x3), (4, vi (x4 + 1))]) X [1, 2, 3, 4, 0] rfl ?_
        exact ih72 x1 x2 x3 (x4 + 1) S1 M1 hx1 hx2 hx3 hc1 hm hF2
      intro x1 x2 x3 x4 S1 M1 hx1 hx2 hx3 hx4 hm hF
      rw [A_roles_l72_e] at hF
      refine go_iload X d_Model_roles_72 rfl ?_
      refine go_aload_n X d_Model_roles_74 rfl rfl ?_
      refine go_get (v := vi (S1 0 37)) X f_Model_348 hm.1.1 rfl d_Model_roles_75 (congrArg (s_v .int) ((hm.s 37).trans (rfl))) ?_
      refine go_icmp_ge (tgt := 212) X d_Model_roles_78 rfl hx4 (hm.gS 37 (by decide) (by decide)) (fun hq3 => ?_) (fun hq3 => ?_)
      · skip
        have hF4 := if_f hF (Int.not_lt.mpr hq3)
        exact go_vret X d_Model_roles_212 rfl (by decide) (by decide) (ret_v hF4 hm)
      · skip
        have hF5 := if_t hF hq3
        refine go_aload_n X d_Model_roles_81 rfl rfl ?_
        refine go_get (v := vr (r + 24)) X f_Model_80 hm.1.1 rfl d_Model_roles_82 (s_varr (hm.1.2.2 23 _ rfl).2 (by omega)) ?_
        refine go_iload X d_Model_roles_85 rfl ?_
        obtain ⟨hc6, hF7⟩ := chk_t hF5
        refine go_iald X (hm.1.2.2 23 _ rfl).1 (by decide) hc6 d_Model_roles_87 ?_
        refine go_top (v' := vi (S1 24 x4)) X (congrArg (fun q => vi q) ((hm.a (by decide) x4).trans (rfl))) ?_
        refine go_if_le (tgt := 122) X d_Model_roles_88 rfl (hm.gA (by decide) x4) (fun hq8 => ?_) (fun hq8 => ?_)
        · skip
          have hF9 := if_f hF7 (Int.not_lt.mpr hq8)
          refine go_aload_n X d_Model_roles_122 rfl rfl ?_
          refine go_get (v := vi (S1 0 38)) X f_Model_351 hm.1.1 rfl d_Model_roles_123 (congrArg (s_v .int) ((hm.s 38).trans (rfl))) ?_
          refine go_iconst (v := 1) X d_Model_roles_126 ?_
          refine go_icmp_le (tgt := 151) X d_Model_roles_127 rfl (hm.gS 38 (by decide) (by decide)) (by decide) (fun hq10 => ?_) (fun hq10 => ?_)
          · skip
            have hF11 := if_f hF9 (Int.not_lt.mpr hq10)
            refine go_iload_n X d_Model_roles_151 rfl rfl ?_
            refine go_if_ge (tgt := 178) X d_Model_roles_152 rfl hx3 (fun hq12 => ?_) (fun hq12 => ?_)
            · skip
              have hF13 := if_f hF11 (Int.not_lt.mpr hq12)
              refine go_aload_n X d_Model_roles_178 rfl rfl ?_
              refine go_get (v := vr (r + 25)) X f_Model_83 hm.1.1 rfl d_Model_roles_179 (s_varr (hm.1.2.2 24 _ rfl).2 (by omega)) ?_
              refine go_iload X d_Model_roles_182 rfl ?_
              refine go_iload X d_Model_roles_184 rfl ?_
              refine go_iload_n X d_Model_roles_186 rfl rfl ?_
              suffices hv14 : Go g 0 0 sh M1 sz 205 [(0, vr r), (1, vi x1), (2, vi x2), (3, vi x3), (4, vi x4)] [vi (if x4 < x2 then (0 : Int) else (if x3 < x4 then (2 : Int) else 1)), vi x4, vr (r + 25)] by
                refine go_icmp_ge (tgt := 194) X d_Model_roles_187 rfl hx4 hx2 (fun hq15 => ?_) (fun hq15 => ?_)
                · skip
                  refine go_iload X d_Model_roles_194 rfl ?_
                  refine go_iload_n X d_Model_roles_196 rfl rfl ?_
                  refine go_icmp_gt (tgt := 204) X d_Model_roles_197 rfl hx4 hx3 (fun hq16 => ?_) (fun hq16 => ?_)
                  · skip
                    refine go_iconst (v := 2) X d_Model_roles_204 ?_
                    refine go_top (v' := vi (if x4 < x2 then (0 : Int) else (if x3 < x4 then (2 : Int) else 1))) X (congrArg (fun q => vi q) (show 2 = if x4 < x2 then (0 : Int) else (if x3 < x4 then (2 : Int) else 1) from ((if_neg (Int.not_lt.mpr hq15)).trans ((if_pos hq16))).symm)) ?_
                    exact hv14
                  · skip
                    refine go_iconst (v := 1) X d_Model_roles_200 ?_
                    refine go_goto (tgt := 205) X d_Model_roles_201 rfl ?_
                    refine go_top (v' := vi (if x4 < x2 then (0 : Int) else (if x3 < x4 then (2 : Int) else 1))) X (congrArg (fun q => vi q) (show 1 = if x4 < x2 then (0 : Int) else (if x3 < x4 then (2 : Int) else 1) from ((if_neg (Int.not_lt.mpr hq15)).trans ((if_neg (Int.not_lt.mpr hq16)))).symm)) ?_
                    exact hv14
                · skip
                  refine go_iconst (v := 0) X d_Model_roles_190 ?_
                  refine go_goto (tgt := 205) X d_Model_roles_191 rfl ?_
                  refine go_top (v' := vi (if x4 < x2 then (0 : Int) else (if x3 < x4 then (2 : Int) else 1))) X (congrArg (fun q => vi q) (show 0 = if x4 < x2 then (0 : Int) else (if x3 < x4 then (2 : Int) else 1) from ((if_pos hq15)).symm)) ?_
                  exact hv14
              obtain ⟨hc17, hF18⟩ := chk_t hF13
              refine go_iast (x := (if x4 < x2 then (0 : Int) else (if x3 < x4 then (2 : Int) else 1))) X (hm.1.2.2 24 _ rfl).1 (by decide) hc17 d_Model_roles_205 ?_
              have md19 : mq sh M0 (m_s M1 (r + 25) x4 (if x4 < x2 then (0 : Int) else (if x3 < x4 then (2 : Int) else 1))) r (m_s S1 25 x4 (if x4 < x2 then (0 : Int) else (if x3 < x4 then (2 : Int) else 1))) := hm.put (by decide) ((rg_A (by decide) (rI_ite (by decide) (rI_ite (by decide) (by decide)))))
              generalize m_s M1 (r + 25) x4 (if x4 < x2 then (0 : Int) else (if x3 < x4 then (2 : Int) else 1)) = M20 at md19 ⊢
              refine go_lv (lv' := [(0, vr r), (1, vi x1), (2, vi x2), (3, vi x3), (4, vi x4)]) X [0, 1, 2, 3, 4] rfl ?_
              exact hJ206 x1 x2 x3 x4 (m_s S1 25 x4 (if x4 < x2 then (0 : Int) else (if x3 < x4 then (2 : Int) else 1))) M20 hx1 hx2 hx3 hx4 md19 hF18
            · skip
              have hF21 := if_t hF11 hq12
              refine go_aload_n X d_Model_roles_155 rfl rfl ?_
              refine go_get (v := vr (r + 25)) X f_Model_83 hm.1.1 rfl d_Model_roles_156 (s_varr (hm.1.2.2 24 _ rfl).2 (by omega)) ?_
              refine go_iload X d_Model_roles_159 rfl ?_
              refine go_iload X d_Model_roles_161 rfl ?_
              refine go_iload_n X d_Model_roles_163 rfl rfl ?_
              refine go_iconst (v := 1) X d_Model_roles_164 ?_
              refine go_isub X d_Model_roles_165 ?_
              obtain ⟨hc22, hF23⟩ := chk_t hF21
              suffices hv24 : Go g 0 0 sh M1 sz 174 [(0, vr r), (1, vi x1), (2, vi x2), (3, vi x3), (4, vi x4)] [vi (if x4 = (x1 - 1) then (2 : Int) else 0), vi x4, vr (r + 25)] by
                refine go_icmp_ne (tgt := 173) X d_Model_roles_166 rfl hx4 hc22 (fun hq25 => ?_) (fun hq25 => ?_)
                · skip
                  refine go_iconst (v := 0) X d_Model_roles_173 ?_
                  refine go_top (v' := vi (if x4 = (x1 - 1) then (2 : Int) else 0)) X (congrArg (fun q => vi q) (show 0 = if x4 = (x1 - 1) then (2 : Int) else 0 from ((if_neg hq25)).symm)) ?_
                  exact hv24
                · skip
                  refine go_iconst (v := 2) X d_Model_roles_169 ?_
                  refine go_goto (tgt := 174) X d_Model_roles_170 rfl ?_
                  refine go_top (v' := vi (if x4 = (x1 - 1) then (2 : Int) else 0)) X (congrArg (fun q => vi q) (show 2 = if x4 = (x1 - 1) then (2 : Int) else 0 from ((if_pos hq25)).symm)) ?_
                  exact hv24
              obtain ⟨hc26, hF27⟩ := chk_t hF23
              refine go_iast (x := (if x4 = (x1 - 1) then (2 : Int) else 0)) X (hm.1.2.2 24 _ rfl).1 (by decide) hc26 d_Model_roles_174 ?_
              have md28 : mq sh M0 (m_s M1 (r + 25) x4 (if x4 = (x1 - 1) then (2 : Int) else 0)) r (m_s S1 25 x4 (if x4 = (x1 - 1) then (2 : Int) else 0)) := hm.put (by decide) ((rg_A (by decide) (rI_ite (by decide) (by decide))))
              generalize m_s M1 (r + 25) x4 (if x4 = (x1 - 1) then (2 : Int) else 0) = M29 at md28 ⊢
              refine go_goto (tgt := 206) X d_Model_roles_175 rfl ?_
              refine go_lv (lv' := [(0, vr r), (1, vi x1), (2, vi x2), (3, vi x3), (4, vi x4)]) X [0, 1, 2, 3, 4] rfl ?_
              exact hJ206 x1 x2 x3 x4 (m_s S1 25 x4 (if x4 = (x1 - 1) then (2 : Int) else 0)) M29 hx1 hx2 hx3 hx4 md28 hF27
          · skip
            have hF30 := if_t hF9 hq10
            refine go_aload_n X d_Model_roles_130 rfl rfl ?_
            refine go_get (v := vr (r + 25)) X f_Model_83 hm.1.1 rfl d_Model_roles_131 (s_varr (hm.1.2.2 24 _ rfl).2 (by omega)) ?_
            refine go_iload X d_Model_roles_134 rfl ?_
            refine go_iload X d_Model_roles_136 rfl ?_
            refine go_iload_n X d_Model_roles_138 rfl rfl ?_
            suffices hv31 : Go g 0 0 sh M1 sz 147 [(0, vr r), (1, vi x1), (2, vi x2), (3, vi x3), (4, vi x4)] [vi (if x3 < x4 then (2 : Int) else 1), vi x4, vr (r + 25)] by
              refine go_icmp_gt (tgt := 146) X d_Model_roles_139 rfl hx4 hx3 (fun hq32 => ?_) (fun hq32 => ?_)
              · skip
                refine go_iconst (v := 2) X d_Model_roles_146 ?_
                refine go_top (v' := vi (if x3 < x4 then (2 : Int) else 1)) X (congrArg (fun q => vi q) (show 2 = if x3 < x4 then (2 : Int) else 1 from ((if_pos hq32)).symm)) ?_
                exact hv31
              · skip
                refine go_iconst (v := 1) X d_Model_roles_142 ?_
                refine go_goto (tgt := 147) X d_Model_roles_143 rfl ?_
                refine go_top (v' := vi (if x3 < x4 then (2 : Int) else 1)) X (congrArg (fun q => vi q) (show 1 = if x3 < x4 then (2 : Int) else 1 from ((if_neg (Int.not_lt.mpr hq32))).symm)) ?_
                exact hv31
            obtain ⟨hc33, hF34⟩ := chk_t hF30
            refine go_iast (x := (if x3 < x4 then (2 : Int) else 1)) X (hm.1.2.2 24 _ rfl).1 (by decide) hc33 d_Model_roles_147 ?_
            have md35 : mq sh M0 (m_s M1 (r + 25) x4 (if x3 < x4 then (2 : Int) else 1)) r (m_s S1 25 x4 (if x3 < x4 then (2 : Int) else 1)) := hm.put (by decide) ((rg_A (by decide) (rI_ite (by decide) (by decide))))
            generalize m_s M1 (r + 25) x4 (if x3 < x4 then (2 : Int) else 1) = M36 at md35 ⊢
            refine go_goto (tgt := 206) X d_Model_roles_148 rfl ?_
            refine go_lv (lv' := [(0, vr r), (1, vi x1), (2, vi x2), (3, vi x3), (4, vi x4)]) X [0, 1, 2, 3, 4] rfl ?_
            exact hJ206 x1 x2 x3 x4 (m_s S1 25 x4 (if x3 < x4 then (2 : Int) else 1)) M36 hx1 hx2 hx3 hx4 md35 hF34
        · skip
          have hF37 := if_t hF7 hq8
          refine go_aload_n X d_Model_roles_91 rfl rfl ?_
          refine go_get (v := vr (r + 25)) X f_Model_83 hm.1.1 rfl d_Model_roles_92 (s_varr (hm.1.2.2 24 _ rfl).2 (by omega)) ?_
          refine go_iload X d_Model_roles_95 rfl ?_
          refine go_aload_n X d_Model_roles_97 rfl rfl ?_
          refine go_get (v := vr (r + 24)) X f_Model_80 hm.1.1 rfl d_Model_roles_98 (s_varr (hm.1.2.2 23 _ rfl).2 (by omega)) ?_
          refine go_iload X d_Model_roles_101 rfl ?_
          obtain ⟨hc38, hF39⟩ := chk_t hF37
          refine go_iald X (hm.1.2.2 23 _ rfl).1 (by decide) hc38 d_Model_roles_103 ?_
          refine go_top (v' := vi (S1 24 x4)) X (congrArg (fun q => vi q) ((hm.a (by decide) x4).trans (rfl))) ?_
          refine go_aload_n X d_Model_roles_104 rfl rfl ?_
          refine go_get (v := vi (S1 0 38)) X f_Model_351 hm.1.1 rfl d_Model_roles_105 (congrArg (s_v .int) ((hm.s 38).trans (rfl))) ?_
          refine go_iconst (v := 1) X d_Model_roles_108 ?_
          refine go_isub X d_Model_roles_109 ?_
          obtain ⟨hc40, hF41⟩ := chk_t hF39
          suffices hv42 : Go g 0 0 sh M1 sz 118 [(0, vr r), (1, vi x1), (2, vi x2), (3, vi x3), (4, vi x4)] [vi (if (S1 24 x4) = ((S1 0 38) - 1) then (0 : Int) else 3), vi x4, vr (r + 25)] by
            refine go_icmp_ne (tgt := 117) X d_Model_roles_110 rfl (hm.gA (by decide) x4) hc40 (fun hq43 => ?_) (fun hq43 => ?_)
            · skip
              refine go_iconst (v := 3) X d_Model_roles_117 ?_
              refine go_top (v' := vi (if (S1 24 x4) = ((S1 0 38) - 1) then (0 : Int) else 3)) X (congrArg (fun q => vi q) (show 3 = if (S1 24 x4) = ((S1 0 38) - 1) then (0 : Int) else 3 from ((if_neg hq43)).symm)) ?_
              exact hv42
            · skip
              refine go_iconst (v := 0) X d_Model_roles_113 ?_
              refine go_goto (tgt := 118) X d_Model_roles_114 rfl ?_
              refine go_top (v' := vi (if (S1 24 x4) = ((S1 0 38) - 1) then (0 : Int) else 3)) X (congrArg (fun q => vi q) (show 0 = if (S1 24 x4) = ((S1 0 38) - 1) then (0 : Int) else 3 from ((if_pos hq43)).symm)) ?_
              exact hv42
          obtain ⟨hc44, hF45⟩ := chk_t hF41
          refine go_iast (x := (if (S1 24 x4) = ((S1 0 38) - 1) then (0 : Int) else 3)) X (hm.1.2.2 24 _ rfl).1 (by decide) hc44 d_Model_roles_118 ?_
          have md46 : mq sh M0 (m_s M1 (r + 25) x4 (if (S1 24 x4) = ((S1 0 38) - 1) then (0 : Int) else 3)) r (m_s S1 25 x4 (if (S1 24 x4) = ((S1 0 38) - 1) then (0 : Int) else 3)) := hm.put (by decide) ((rg_A (by decide) (rI_ite (by decide) (by decide))))
          generalize m_s M1 (r + 25) x4 (if (S1 24 x4) = ((S1 0 38) - 1) then (0 : Int) else 3) = M47 at md46 ⊢
          refine go_goto (tgt := 206) X d_Model_roles_119 rfl ?_
          refine go_lv (lv' := [(0, vr r), (1, vi x1), (2, vi x2), (3, vi x3), (4, vi x4)]) X [0, 1, 2, 3, 4] rfl ?_
          exact hJ206 x1 x2 x3 x4 (m_s S1 25 x4 (if (S1 24 x4) = ((S1 0 38) - 1) then (0 : Int) else 3)) M47 hx1 hx2 hx3 hx4 md46 hF45
  have hL32 : ∀ (n32 : Nat) (x1 x2 x3 x4 : Int) (S1 M1 : s_M), rI x1 → rI x2 → rI x3 → rI x4 → mq sh M0 M1 r S1 → A_roles_l32 N n32 x1 x2 x3 x4 S1 = some (v0, S0) → Go g 0 0 sh M1 sz 32 [(0, vr r), (1, vi x1), (2, vi x2), (3, vi x3), (4, vi x4)] [] := by
    intro n32
    induction n32 with
    | zero => intro x1 x2 x3 x4 S1 M1 hx1 hx2 hx3 hx4 hm hF; cases hF
    | succ n32 ih32 =>
      have hJ63 : ∀ (x1 x2 x3 x4 : Int) (S1 M1 : s_M), rI x1 → rI x2 → rI x3 → rI x4 → mq sh M0 M1 r S1 → A_roles_j63 N (A_roles_l32 N n32) x1 x2 x3 x4 S1 = some (v0, S0) → Go g 0 0 sh M1 sz 63 [(0, vr r), (1, vi x1), (2, vi x2), (3, vi x3), (4, vi x4)] [] := by
        intro x1 x2 x3 x4 S1 M1 hx1 hx2 hx3 hx4 hm hF
        rw [A_roles_j63_e] at hF
        obtain ⟨hc48, hF49⟩ := chk_t hF
        refine go_iinc (v := 1) (x := x4) (lv' := [(4, vi (x4 + 1)), (0, vr r), (1, vi x1), (2, vi x2), (3, vi x3)]) X d_Model_roles_63 rfl (by decide) rfl ?_
        refine go_goto (tgt := 32) X d_Model_roles_66 rfl ?_
        refine go_lv (lv' := [(0, vr r), (1, vi x1), (2, vi x2), (3, vi x3), (4, vi (x4 + 1))]) X [1, 2, 3, 4, 0] rfl ?_
        exact ih32 x1 x2 x3 (x4 + 1) S1 M1 hx1 hx2 hx3 hc48 hm hF49
      intro x1 x2 x3 x4 S1 M1 hx1 hx2 hx3 hx4 hm hF
      rw [A_roles_l32_e] at hF
      refine go_iload X d_Model_roles_32 rfl ?_
      refine go_iload_n X d_Model_roles_34 rfl rfl ?_
      refine go_iconst (v := 1) X d_Model_roles_35 ?_
      refine go_isub X d_Model_roles_36 ?_
      obtain ⟨hc50, hF51⟩ := chk_t hF
      refine go_icmp_ge (tgt := 69) X d_Model_roles_37 rfl hx4 hc50 (fun hq52 => ?_) (fun hq52 => ?_)
      · skip
        have hF53 := if_f hF51 (Int.not_lt.mpr hq52)
        refine go_iconst (v := 0) X d_Model_roles_69 ?_
        refine go_istore (lv' := [(4, vi 0), (0, vr r), (1, vi x1), (2, vi x2), (3, vi x3)]) X d_Model_roles_70 (by decide) rfl ?_
        refine go_lv (lv' := [(0, vr r), (1, vi x1), (2, vi x2), (3, vi x3), (4, vi 0)]) X [1, 2, 3, 4, 0] rfl ?_
        exact hL72 N x1 x2 x3 0 S1 M1 hx1 hx2 hx3 (by decide) hm hF53
      · skip
        have hF54 := if_t hF51 hq52
        refine go_aload_n X d_Model_roles_40 rfl rfl ?_
        refine go_iload X d_Model_roles_41 rfl ?_
        obtain ⟨v55, S56, hG57, hF58⟩ := bnd_t hF54
        refine go_cV (st2 := []) (r := []) X k_Model_354 (a_low l D hm hx4 hG57) hm.1.1 rfl rfl (by decide) (Nat.le_of_ble_eq_true rfl) d_Model_roles_43 (by decide) (by decide) (fun v' sh' M59 sz' hpp => ?_)
        obtain ⟨e1, e2, e3, hv61, md60⟩ := hpp
        subst e1
        rw [e2, e3]
        clear e2 e3
        show Go g 0 0 sh M59 sz 46 [(0, vr r), (1, vi x1), (2, vi x2), (3, vi x3), (4, vi x4)] [vi v55]
        refine go_if_eq (tgt := 63) X d_Model_roles_46 rfl hv61 (fun hq62 => ?_) (fun hq62 => ?_)
        · skip
          have hF63 := if_t hF58 hq62
          refine go_lv (lv' := [(0, vr r), (1, vi x1), (2, vi x2), (3, vi x3), (4, vi x4)]) X [0, 1, 2, 3, 4] rfl ?_
          exact hJ63 x1 x2 x3 x4 S56 M59 hx1 hx2 hx3 hx4 md60 hF63
        · skip
          have hF64 := if_f hF58 hq62
          refine go_iload_n X d_Model_roles_49 rfl rfl ?_
          suffices hv65 : Go g 0 0 sh M59 sz 59 [(0, vr r), (1, vi x1), (2, vi x2), (3, vi x3), (4, vi x4)] [vi (if x2 < 0 then (x4 : Int) else x2)] by
            refine go_if_ge (tgt := 58) X d_Model_roles_50 rfl hx2 (fun hq66 => ?_) (fun hq66 => ?_)
            · skip
              refine go_iload_n X d_Model_roles_58 rfl rfl ?_
              refine go_top (v' := vi (if x2 < 0 then (x4 : Int) else x2)) X (congrArg (fun q => vi q) (show x2 = if x2 < 0 then (x4 : Int) else x2 from ((if_neg (Int.not_lt.mpr hq66))).symm)) ?_
              exact hv65
            · skip
              refine go_iload X d_Model_roles_53 rfl ?_
              refine go_goto (tgt := 59) X d_Model_roles_55 rfl ?_
              refine go_top (v' := vi (if x2 < 0 then (x4 : Int) else x2)) X (congrArg (fun q => vi q) (show x4 = if x2 < 0 then (x4 : Int) else x2 from ((if_pos hq66)).symm)) ?_
              exact hv65
          refine go_istore_n (lv' := [(2, vi (if x2 < 0 then (x4 : Int) else x2)), (0, vr r), (1, vi x1), (3, vi x3), (4, vi x4)]) X d_Model_roles_59 rfl (by decide) rfl ?_
          refine go_iload X d_Model_roles_60 rfl ?_
          refine go_istore_n (lv' := [(3, vi x4), (2, vi (if x2 < 0 then (x4 : Int) else x2)), (0, vr r), (1, vi x1), (4, vi x4)]) X d_Model_roles_62 rfl (by decide) rfl ?_
          refine go_lv (lv' := [(0, vr r), (1, vi x1), (2, vi (if x2 < 0 then (x4 : Int) else x2)), (3, vi x4), (4, vi x4)]) X [2, 3, 1, 0, 4] rfl ?_
          exact hJ63 x1 (if x2 < 0 then (x4 : Int) else x2) x4 x4 S56 M59 hx1 (rI_ite hx4 hx2) hx4 hx4 md60 hF64
  have hJ25 : ∀ (x1 : Int) (S1 M1 : s_M), rI x1 → mq sh M0 M1 r S1 → A_roles_j25 N x1 S1 = some (v0, S0) → Go g 0 0 sh M1 sz 25 [(0, vr r), (1, vi x1)] [] := by
    intro x1 S1 M1 hx1 hm hF
    rw [A_roles_j25_e] at hF
    refine go_iconst (v := (-1)) X d_Model_roles_25 ?_
    refine go_istore_n (lv' := [(2, vi (-1)), (0, vr r), (1, vi x1)]) X d_Model_roles_26 rfl (by decide) rfl ?_
    refine go_iconst (v := (-1)) X d_Model_roles_27 ?_
    refine go_istore_n (lv' := [(3, vi (-1)), (2, vi (-1)), (0, vr r), (1, vi x1)]) X d_Model_roles_28 rfl (by decide) rfl ?_
    refine go_iconst (v := 0) X d_Model_roles_29 ?_
    refine go_istore (lv' := [(4, vi 0), (3, vi (-1)), (2, vi (-1)), (0, vr r), (1, vi x1)]) X d_Model_roles_30 (by decide) rfl ?_
    refine go_lv (lv' := [(0, vr r), (1, vi x1), (2, vi (-1)), (3, vi (-1)), (4, vi 0)]) X [3, 4, 2, 1, 0] rfl ?_
    exact hL32 N x1 (-1) (-1) 0 S1 M1 hx1 (by decide) (by decide) (by decide) hm hF
  have hL2 : ∀ (n2 : Nat) (x1 : Int) (S1 M1 : s_M), rI x1 → mq sh M0 M1 r S1 → A_roles_l2 N n2 x1 S1 = some (v0, S0) → Go g 0 0 sh M1 sz 2 [(0, vr r), (1, vi x1)] [] := by
    intro n2
    induction n2 with
    | zero => intro x1 S1 M1 hx1 hm hF; cases hF
    | succ n2 ih2 =>
      intro x1 S1 M1 hx1 hm hF
      rw [A_roles_l2_e] at hF
      refine go_iload_n X d_Model_roles_2 rfl rfl ?_
      refine go_aload_n X d_Model_roles_3 rfl rfl ?_
      refine go_get (v := vi (S1 0 37)) X f_Model_348 hm.1.1 rfl d_Model_roles_4 (congrArg (s_v .int) ((hm.s 37).trans (rfl))) ?_
      refine go_icmp_ge (tgt := 25) X d_Model_roles_7 rfl hx1 (hm.gS 37 (by decide) (by decide)) (fun hq67 => ?_) (fun hq67 => ?_)
      · skip
        have hF68 := if_f hF (Int.not_lt.mpr hq67)
        refine go_lv (lv' := [(0, vr r), (1, vi x1)]) X [0, 1] rfl ?_
        exact hJ25 x1 S1 M1 hx1 hm hF68
      · skip
        have hF69 := if_t hF hq67
        refine go_aload_n X d_Model_roles_10 rfl rfl ?_
        refine go_get (v := vr (r + 24)) X f_Model_80 hm.1.1 rfl d_Model_roles_11 (s_varr (hm.1.2.2 23 _ rfl).2 (by omega)) ?_
        refine go_iload_n X d_Model_roles_14 rfl rfl ?_
        obtain ⟨hc70, hF71⟩ := chk_t hF69
        refine go_iald X (hm.1.2.2 23 _ rfl).1 (by decide) hc70 d_Model_roles_15 ?_
        refine go_top (v' := vi (S1 24 x1)) X (congrArg (fun q => vi q) ((hm.a (by decide) x1).trans (rfl))) ?_
        refine go_if_ne (tgt := 25) X d_Model_roles_16 rfl (hm.gA (by decide) x1) (fun hq72 => ?_) (fun hq72 => ?_)
        · skip
          have hF73 := if_f hF71 hq72
          refine go_lv (lv' := [(0, vr r), (1, vi x1)]) X [0, 1] rfl ?_
          exact hJ25 x1 S1 M1 hx1 hm hF73
        · skip
          have hF74 := if_t hF71 hq72
          obtain ⟨hc75, hF76⟩ := chk_t hF74
          refine go_iinc (v := 1) (x := x1) (lv' := [(1, vi (x1 + 1)), (0, vr r)]) X d_Model_roles_19 rfl (by decide) rfl ?_
          refine go_goto (tgt := 2) X d_Model_roles_22 rfl ?_
          refine go_lv (lv' := [(0, vr r), (1, vi (x1 + 1))]) X [1, 0] rfl ?_
          exact ih2 (x1 + 1) S1 M1 hc75 hm hF76
  rw [A_roles_e] at hF
  refine go_iconst (v := 0) X d_Model_roles_0 ?_
  refine go_istore_n (lv' := [(1, vi 0), (0, vr r)]) X d_Model_roles_1 rfl (by decide) rfl ?_
  refine go_lv (lv' := [(0, vr r), (1, vi 0)]) X [1, 0] rfl ?_
  exact hL2 N 0 S M (by decide) h hF
def A_person_j117 (N : Nat) (S : s_M) : rO := some (0, S)
theorem A_person_j117_e (N : Nat) (S : s_M) : A_person_j117 N S = (some (0, S)) := rfl
def A_person_j105 (N : Nat) (x2 : Int) (S : s_M) : rO := if x2 = 1 then (bnd (A_group N 0 1 1 S) fun v4 S5 => A_person_j117 N  S5) else (A_person_j117 N  S)
theorem A_person_j105_e (N : Nat) (x2 : Int) (S : s_M) : A_person_j105 N x2 S = (if x2 = 1 then (bnd (A_group N 0 1 1 S) fun v4 S5 => A_person_j117 N  S5) else (A_person_j117 N  S)) := rfl
def A_person_j86 (N : Nat) (x2 : Int) (S : s_M) : rO := bnd (A_group N 2 0 0 S) fun v11 S12 => if x2 < 2 then (bnd (A_group N 3 1 0 S12) fun v21 S22 => A_person_j105 N x2 S22) else (A_person_j105 N x2 S12)
theorem A_person_j86_e (N : Nat) (x2 : Int) (S : s_M) : A_person_j86 N x2 S = (bnd (A_group N 2 0 0 S) fun v11 S12 => if x2 < 2 then (bnd (A_group N 3 1 0 S12) fun v21 S22 => A_person_j105 N x2 S22) else (A_person_j105 N x2 S12)) := rfl
def A_person_j74 (N : Nat) (x2 : Int) (S : s_M) : rO := if x2 = 2 then (A_person_j86 N x2 S) else (bnd (A_group N 1 0 0 S) fun v31 S32 => A_person_j86 N x2 S32)
theorem A_person_j74_e (N : Nat) (x2 : Int) (S : s_M) : A_person_j74 N x2 S = (if x2 = 2 then (A_person_j86 N x2 S) else (bnd (A_group N 1 0 0 S) fun v31 S32 => A_person_j86 N x2 S32)) := rfl
def A_person_j62 (N : Nat) (x2 : Int) (S : s_M) : rO := if x2 = 3 then (bnd (A_group N 0 0 1 S) fun v41 S42 => A_person_j74 N x2 S42) else (A_person_j74 N x2 S)
theorem A_person_j62_e (N : Nat) (x2 : Int) (S : s_M) : A_person_j62 N x2 S = (if x2 = 3 then (bnd (A_group N 0 0 1 S) fun v41 S42 => A_person_j74 N x2 S42) else (A_person_j74 N x2 S)) := rfl
def A_person_j19 (N : Nat) (S : s_M) : rO := bnd (A_warn N 9 S) fun v48 S49 => some (0, S49)
theorem A_person_j19_e (N : Nat) (S : s_M) : A_person_j19 N S = (bnd (A_warn N 9 S) fun v48 S49 => some (0, S49)) := rfl
def A_person (N : Nat) (x1 x2 : Int) (S : s_M) : rO := bnd (A_clearText N 84 S) fun v55 S56 => if x1 < 1 then (A_person_j19 N  S56) else (bnd (A_people N S56) fun v65 S66 => if v65 < x1 then (A_person_j19 N  S66) else (bnd (A_border N x1 0 S66) fun v74 S75 => bnd (A_border N x1 1 S75) fun v81 S82 => bnd (A_cut N v74 v81 S82) fun v88 S89 => bnd (A_roles N S89) fun v95 S96 => if x2 = 0 then (bnd (A_group N 0 0 0 (m_s S96 0 43 0)) fun v107 S108 => A_person_j62 N x2 S108) else (A_person_j62 N x2 (m_s S96 0 43 0))))
theorem A_person_e (N : Nat) (x1 x2 : Int) (S : s_M) : A_person N x1 x2 S = (bnd (A_clearText N 84 S) fun v55 S56 => if x1 < 1 then (A_person_j19 N  S56) else (bnd (A_people N S56) fun v65 S66 => if v65 < x1 then (A_person_j19 N  S66) else (bnd (A_border N x1 0 S66) fun v74 S75 => bnd (A_border N x1 1 S75) fun v81 S82 => bnd (A_cut N v74 v81 S82) fun v88 S89 => bnd (A_roles N S89) fun v95 S96 => if x2 = 0 then (bnd (A_group N 0 0 0 (m_s S96 0 43 0)) fun v107 S108 => A_person_j62 N x2 S108) else (A_person_j62 N x2 (m_s S96 0 43 0))))) := rfl
set_option maxHeartbeats 4000000 in
set_option maxRecDepth 100000 in
theorem a_person (l : Launch) (D : va_G) {sh : s_S} {M0 M : s_M} {sz r x1 x2 : Int} {N : Nat} {S S0 : s_M} {v0 : Int} (h : mq sh M0 M r S) (hx1 : rI x1) (hx2 : rI x2) (hF : A_person N x1 x2 S = some (v0, S0)) : Sp l D y_Model_person prog_14_method_79_code 3 none 5 0 0 [vr r, vi x1, vi x2] sh M sz (fun v' sh' M' sz' => v' = none ∧ sh' = sh ∧ sz' = sz ∧ mq sh M0 M' r S0) := by
  have hr0 := h.1.2.1
  refine Sp.ofGo (own := "CiteForgeModel") (nm := "person") (by decide) rfl rfl (Nat.le_of_ble_eq_true rfl) (lv := [(0, vr r), (1, vi x1), (2, vi x2)]) rfl ?_
  intro g X
  have hJ117 : ∀ (S1 M1 : s_M), mq sh M0 M1 r S1 → A_person_j117 N S1 = some (v0, S0) → Go g 0 0 sh M1 sz 117 [(0, vr r)] [] := by
    intro S1 M1 hm hF
    rw [A_person_j117_e] at hF
    exact go_vret X d_Model_person_117 rfl (by decide) (by decide) (ret_v hF hm)
  have hJ105 : ∀ (x2 : Int) (S1 M1 : s_M), rI x2 → mq sh M0 M1 r S1 → A_person_j105 N x2 S1 = some (v0, S0) → Go g 0 0 sh M1 sz 105 [(0, vr r), (2, vi x2)] [] := by
    intro x2 S1 M1 hx2 hm hF
    rw [A_person_j105_e] at hF
    refine go_iload_n X d_Model_person_105 rfl rfl ?_
    refine go_iconst (v := 1) X d_Model_person_106 ?_
    refine go_icmp_ne (tgt := 117) X d_Model_person_107 rfl hx2 (by decide) (fun hq1 => ?_) (fun hq1 => ?_)
    · skip
      have hF2 := if_f hF hq1
      refine go_lv (lv' := [(0, vr r)]) X [0] rfl ?_
      exact hJ117  S1 M1  hm hF2
    · skip
      have hF3 := if_t hF hq1
      refine go_aload_n X d_Model_person_110 rfl rfl ?_
      refine go_iconst (v := 0) X d_Model_person_111 ?_
      refine go_iconst (v := 1) X d_Model_person_112 ?_
      refine go_iconst (v := 1) X d_Model_person_113 ?_
      obtain ⟨v4, S5, hG6, hF7⟩ := bnd_t hF3
      refine go_cV (st2 := []) (r := []) X k_Model_373 (a_group l D hm (by decide) (by decide) (by decide) hG6) hm.1.1 rfl rfl (by decide) (Nat.le_of_ble_eq_true rfl) d_Model_person_114 (by decide) (by decide) (fun v' sh' M8 sz' hpp => ?_)
      obtain ⟨e1, e2, e3, md9⟩ := hpp
      subst e1
      rw [e2, e3]
      clear e2 e3
      show Go g 0 0 sh M8 sz 117 [(0, vr r), (2, vi x2)] []
      refine go_lv (lv' := [(0, vr r)]) X [0] rfl ?_
      exact hJ117  S5 M8  md9 hF7
  have hJ86 : ∀ (x2 : Int) (S1 M1 : s_M), rI x2 → mq sh M0 M1 r S1 → A_person_j86 N x2 S1 = some (v0, S0) → Go g 0 0 sh M1 sz 86 [(0, vr r), (2, vi x2)] [] := by
    intro x2 S1 M1 hx2 hm hF
    rw [A_person_j86_e] at hF
    refine go_aload_n X d_Model_person_86 rfl rfl ?_
    refine go_iconst (v := 2) X d_Model_person_87 ?_
    refine go_iconst (v := 0) X d_Model_person_88 ?_
    refine go_iconst (v := 0) X d_Model_person_89 ?_
    obtain ⟨v11, S12, hG13, hF14⟩ := bnd_t hF
    refine go_cV (st2 := []) (r := []) X k_Model_373 (a_group l D hm (by decide) (by decide) (by decide) hG13) hm.1.1 rfl rfl (by decide) (Nat.le_of_ble_eq_true rfl) d_Model_person_90 (by decide) (by decide) (fun v' sh' M15 sz' hpp => ?_)
    obtain ⟨e1, e2, e3, md16⟩ := hpp
    subst e1
    rw [e2, e3]
    clear e2 e3
    show Go g 0 0 sh M15 sz 93 [(0, vr r), (2, vi x2)] []
    refine go_iload_n X d_Model_person_93 rfl rfl ?_
    refine go_iconst (v := 2) X d_Model_person_94 ?_
    refine go_icmp_ge (tgt := 105) X d_Model_person_95 rfl hx2 (by decide) (fun hq18 => ?_) (fun hq18 => ?_)
    · skip
      have hF19 := if_f hF14 (Int.not_lt.mpr hq18)
      refine go_lv (lv' := [(0, vr r), (2, vi x2)]) X [0, 1] rfl ?_
      exact hJ105 x2 S12 M15 hx2 md16 hF19
    · skip
      have hF20 := if_t hF14 hq18
      refine go_aload_n X d_Model_person_98 rfl rfl ?_
      refine go_iconst (v := 3) X d_Model_person_99 ?_
      refine go_iconst (v := 1) X d_Model_person_100 ?_
      refine go_iconst (v := 0) X d_Model_person_101 ?_
      obtain ⟨v21, S22, hG23, hF24⟩ := bnd_t hF20
      refine go_cV (st2 := []) (r := []) X k_Model_373 (a_group l D md16 (by decide) (by decide) (by decide) hG23) md16.1.1 rfl rfl (by decide) (Nat.le_of_ble_eq_true rfl) d_Model_person_102 (by decide) (by decide) (fun v' sh' M25 sz' hpp => ?_)
      obtain ⟨e1, e2, e3, md26⟩ := hpp
      subst e1
      rw [e2, e3]
      clear e2 e3
      show Go g 0 0 sh M25 sz 105 [(0, vr r), (2, vi x2)] []
      refine go_lv (lv' := [(0, vr r), (2, vi x2)]) X [0, 1] rfl ?_
      exact hJ105 x2 S22 M25 hx2 md26 hF24
  have hJ74 : ∀ (x2 : Int) (S1 M1 : s_M), rI x2 → mq sh M0 M1 r S1 → A_person_j74 N x2 S1 = some (v0, S0) → Go g 0 0 sh M1 sz 74 [(0, vr r), (2, vi x2)] [] := by
    intro x2 S1 M1 hx2 hm hF
    rw [A_person_j74_e] at hF
    refine go_iload_n X d_Model_person_74 rfl rfl ?_
    refine go_iconst (v := 2) X d_Model_person_75 ?_
    refine go_icmp_eq (tgt := 86) X d_Model_person_76 rfl hx2 (by decide) (fun hq28 => ?_) (fun hq28 => ?_)
    · skip
      have hF29 := if_t hF hq28
      refine go_lv (lv' := [(0, vr r), (2, vi x2)]) X [0, 1] rfl ?_
      exact hJ86 x2 S1 M1 hx2 hm hF29
    · skip
      have hF30 := if_f hF hq28
      refine go_aload_n X d_Model_person_79 rfl rfl ?_
      refine go_iconst (v := 1) X d_Model_person_80 ?_
      refine go_iconst (v := 0) X d_Model_person_81 ?_
      refine go_iconst (v := 0) X d_Model_person_82 ?_
      obtain ⟨v31, S32, hG33, hF34⟩ := bnd_t hF30
      refine go_cV (st2 := []) (r := []) X k_Model_373 (a_group l D hm (by decide) (by decide) (by decide) hG33) hm.1.1 rfl rfl (by decide) (Nat.le_of_ble_eq_true rfl) d_Model_person_83 (by decide) (by decide) (fun v' sh' M35 sz' hpp => ?_)
      obtain ⟨e1, e2, e3, md36⟩ := hpp
      subst e1
      rw [e2, e3]
      clear e2 e3
      show Go g 0 0 sh M35 sz 86 [(0, vr r), (2, vi x2)] []
      refine go_lv (lv' := [(0, vr r), (2, vi x2)]) X [0, 1] rfl ?_
      exact hJ86 x2 S32 M35 hx2 md36 hF34
  have hJ62 : ∀ (x2 : Int) (S1 M1 : s_M), rI x2 → mq sh M0 M1 r S1 → A_person_j62 N x2 S1 = some (v0, S0) → Go g 0 0 sh M1 sz 62 [(0, vr r), (2, vi x2)] [] := by
    intro x2 S1 M1 hx2 hm hF
    rw [A_person_j62_e] at hF
    refine go_iload_n X d_Model_person_62 rfl rfl ?_
    refine go_iconst (v := 3) X d_Model_person_63 ?_
    refine go_icmp_ne (tgt := 74) X d_Model_person_64 rfl hx2 (by decide) (fun hq38 => ?_) (fun hq38 => ?_)
    · skip
      have hF39 := if_f hF hq38
      refine go_lv (lv' := [(0, vr r), (2, vi x2)]) X [0, 1] rfl ?_
      exact hJ74 x2 S1 M1 hx2 hm hF39
    · skip
      have hF40 := if_t hF hq38
      refine go_aload_n X d_Model_person_67 rfl rfl ?_
      refine go_iconst (v := 0) X d_Model_person_68 ?_
      refine go_iconst (v := 0) X d_Model_person_69 ?_
      refine go_iconst (v := 1) X d_Model_person_70 ?_
      obtain ⟨v41, S42, hG43, hF44⟩ := bnd_t hF40
      refine go_cV (st2 := []) (r := []) X k_Model_373 (a_group l D hm (by decide) (by decide) (by decide) hG43) hm.1.1 rfl rfl (by decide) (Nat.le_of_ble_eq_true rfl) d_Model_person_71 (by decide) (by decide) (fun v' sh' M45 sz' hpp => ?_)
      obtain ⟨e1, e2, e3, md46⟩ := hpp
      subst e1
      rw [e2, e3]
      clear e2 e3
      show Go g 0 0 sh M45 sz 74 [(0, vr r), (2, vi x2)] []
      refine go_lv (lv' := [(0, vr r), (2, vi x2)]) X [0, 1] rfl ?_
      exact hJ74 x2 S42 M45 hx2 md46 hF44
  have hJ19 : ∀ (S1 M1 : s_M), mq sh M0 M1 r S1 → A_person_j19 N S1 = some (v0, S0) → Go g 0 0 sh M1 sz 19 [(0, vr r)] [] := by
    intro S1 M1 hm hF
    rw [A_person_j19_e] at hF
    refine go_aload_n X d_Model_person_19 rfl rfl ?_
    refine go_bipush (v := 9) X d_Model_person_20 (by decide) ?_
    obtain ⟨v48, S49, hG50, hF51⟩ := bnd_t hF
    refine go_cV (st2 := []) (r := []) X k_Model_144 (a_warn l D hm (by decide) hG50) hm.1.1 rfl rfl (by decide) (Nat.le_of_ble_eq_true rfl) d_Model_person_22 (by decide) (by decide) (fun v' sh' M52 sz' hpp => ?_)
    obtain ⟨e1, e2, e3, md53⟩ := hpp
    subst e1
    rw [e2, e3]
    clear e2 e3
    show Go g 0 0 sh M52 sz 25 [(0, vr r)] []
    exact go_vret X d_Model_person_25 rfl (by decide) (by decide) (ret_v hF51 md53)
  rw [A_person_e] at hF
  refine go_aload_n X d_Model_person_0 rfl rfl ?_
  refine go_bipush (v := 84) X d_Model_person_1 (by decide) ?_
  obtain ⟨v55, S56, hG57, hF58⟩ := bnd_t hF
  refine go_cV (st2 := []) (r := []) X k_Model_120 (a_clearText l D h (by decide) hG57) h.1.1 rfl rfl (by decide) (Nat.le_of_ble_eq_true rfl) d_Model_person_3 (by decide) (by decide) (fun v' sh' M59 sz' hpp => ?_)
  obtain ⟨e1, e2, e3, md60⟩ := hpp
  subst e1
  rw [e2, e3]
  clear e2 e3
  show Go g 0 0 sh M59 sz 6 [(0, vr r), (1, vi x1), (2, vi x2)] []
  refine go_iload_n X d_Model_person_6 rfl rfl ?_
  refine go_iconst (v := 1) X d_Model_person_7 ?_
  refine go_icmp_lt (tgt := 19) X d_Model_person_8 rfl hx1 (by decide) (fun hq62 => ?_) (fun hq62 => ?_)
  · skip
    have hF63 := if_t hF58 hq62
    refine go_lv (lv' := [(0, vr r)]) X [0] rfl ?_
    exact hJ19  S56 M59  md60 hF63
  · skip
    have hF64 := if_f hF58 (Int.not_lt.mpr hq62)
    refine go_iload_n X d_Model_person_11 rfl rfl ?_
    refine go_aload_n X d_Model_person_12 rfl rfl ?_
    obtain ⟨v65, S66, hG67, hF68⟩ := bnd_t hF64
    refine go_cV (st2 := []) (r := [vi x1]) X k_Model_322 (a_people l D md60 hG67) md60.1.1 rfl rfl (by decide) (Nat.le_of_ble_eq_true rfl) d_Model_person_13 (by decide) (by decide) (fun v' sh' M69 sz' hpp => ?_)
    obtain ⟨e1, e2, e3, hv71, md70⟩ := hpp
    subst e1
    rw [e2, e3]
    clear e2 e3
    show Go g 0 0 sh M69 sz 16 [(0, vr r), (1, vi x1), (2, vi x2)] [vi v65, vi x1]
    refine go_icmp_le (tgt := 26) X d_Model_person_16 rfl hx1 hv71 (fun hq72 => ?_) (fun hq72 => ?_)
    · skip
      have hF73 := if_f hF68 (Int.not_lt.mpr hq72)
      refine go_aload_n X d_Model_person_26 rfl rfl ?_
      refine go_aload_n X d_Model_person_27 rfl rfl ?_
      refine go_iload_n X d_Model_person_28 rfl rfl ?_
      refine go_iconst (v := 0) X d_Model_person_29 ?_
      obtain ⟨v74, S75, hG76, hF77⟩ := bnd_t hF73
      refine go_cV (st2 := []) (r := [vr r]) X k_Model_363 (a_border l D md70 hx1 (by decide) hG76) md70.1.1 rfl rfl (by decide) (Nat.le_of_ble_eq_true rfl) d_Model_person_30 (by decide) (by decide) (fun v' sh' M78 sz' hpp => ?_)
      obtain ⟨e1, e2, e3, hv80, md79⟩ := hpp
      subst e1
      rw [e2, e3]
      clear e2 e3
      show Go g 0 0 sh M78 sz 33 [(0, vr r), (1, vi x1), (2, vi x2)] [vi v74, vr r]
      refine go_aload_n X d_Model_person_33 rfl rfl ?_
      refine go_iload_n X d_Model_person_34 rfl rfl ?_
      refine go_iconst (v := 1) X d_Model_person_35 ?_
      obtain ⟨v81, S82, hG83, hF84⟩ := bnd_t hF77
      refine go_cV (st2 := []) (r := [vi v74, vr r]) X k_Model_363 (a_border l D md79 hx1 (by decide) hG83) md79.1.1 rfl rfl (by decide) (Nat.le_of_ble_eq_true rfl) d_Model_person_36 (by decide) (by decide) (fun v' sh' M85 sz' hpp => ?_)
      obtain ⟨e1, e2, e3, hv87, md86⟩ := hpp
      subst e1
      rw [e2, e3]
      clear e2 e3
      show Go g 0 0 sh M85 sz 39 [(0, vr r), (1, vi x1), (2, vi x2)] [vi v81, vi v74, vr r]
      obtain ⟨v88, S89, hG90, hF91⟩ := bnd_t hF84
      refine go_cV (st2 := []) (r := []) X k_Model_367 (a_cut l D md86 hv80 hv87 hG90) md86.1.1 rfl rfl (by decide) (Nat.le_of_ble_eq_true rfl) d_Model_person_39 (by decide) (by decide) (fun v' sh' M92 sz' hpp => ?_)
      obtain ⟨e1, e2, e3, md93⟩ := hpp
      subst e1
      rw [e2, e3]
      clear e2 e3
      show Go g 0 0 sh M92 sz 42 [(0, vr r), (1, vi x1), (2, vi x2)] []
      refine go_aload_n X d_Model_person_42 rfl rfl ?_
      obtain ⟨v95, S96, hG97, hF98⟩ := bnd_t hF91
      refine go_cV (st2 := []) (r := []) X k_Model_370 (a_roles l D md93 hG97) md93.1.1 rfl rfl (by decide) (Nat.le_of_ble_eq_true rfl) d_Model_person_43 (by decide) (by decide) (fun v' sh' M99 sz' hpp => ?_)
      obtain ⟨e1, e2, e3, md100⟩ := hpp
      subst e1
      rw [e2, e3]
      clear e2 e3
      show Go g 0 0 sh M99 sz 46 [(0, vr r), (1, vi x1), (2, vi x2)] []
      refine go_aload_n X d_Model_person_46 rfl rfl ?_
      refine go_iconst (v := 0) X d_Model_person_47 ?_
      refine go_put (x := 0) (v := vi 0) X f_Model_357 md100.1.1 rfl d_Model_person_48 rfl (n_nz (by decide)) (n_fz (by decide)) ?_
      have md102 : mq sh M0 (m_s M99 r 43 0) r (m_s S96 0 43 0) := md100.put0 (by decide) ((rg_B (by decide) (by decide) (by decide)))
      generalize m_s M99 r 43 0 = M103 at md102 ⊢
      refine go_iload_n X d_Model_person_51 rfl rfl ?_
      refine go_if_ne (tgt := 62) X d_Model_person_52 rfl hx2 (fun hq104 => ?_) (fun hq104 => ?_)
      · skip
        have hF105 := if_f hF98 hq104
        refine go_lv (lv' := [(0, vr r), (2, vi x2)]) X [0, 2] rfl ?_
        exact hJ62 x2 (m_s S96 0 43 0) M103 hx2 md102 hF105
      · skip
        have hF106 := if_t hF98 hq104
        refine go_aload_n X d_Model_person_55 rfl rfl ?_
        refine go_iconst (v := 0) X d_Model_person_56 ?_
        refine go_iconst (v := 0) X d_Model_person_57 ?_
        refine go_iconst (v := 0) X d_Model_person_58 ?_
        obtain ⟨v107, S108, hG109, hF110⟩ := bnd_t hF106
        refine go_cV (st2 := []) (r := []) X k_Model_373 (a_group l D md102 (by decide) (by decide) (by decide) hG109) md102.1.1 rfl rfl (by decide) (Nat.le_of_ble_eq_true rfl) d_Model_person_59 (by decide) (by decide) (fun v' sh' M111 sz' hpp => ?_)
        obtain ⟨e1, e2, e3, md112⟩ := hpp
        subst e1
        rw [e2, e3]
        clear e2 e3
        show Go g 0 0 sh M111 sz 62 [(0, vr r), (1, vi x1), (2, vi x2)] []
        refine go_lv (lv' := [(0, vr r), (2, vi x2)]) X [0, 2] rfl ?_
        exact hJ62 x2 S108 M111 hx2 md112 hF110
    · skip
      have hF114 := if_t hF68 hq72
      refine go_lv (lv' := [(0, vr r)]) X [0] rfl ?_
      exact hJ19  S66 M69  md70 hF114
def A_prefix_l109 (N : Nat) : Nat → Int → Int → s_M → rO
  | 0, _, _, _ => none
  | n + 1, x2, x4, S => if x4 < x2 then (bnd (A_add N 84 125 S) fun v4 S5 => chk (rI (x4 + 1)) <| (A_prefix_l109 N n) x2 (x4 + 1) S5) else (some (0, S))
theorem A_prefix_l109_e (N : Nat) (n : Nat) (x2 x4 : Int) (S : s_M) : A_prefix_l109 N (n + 1) x2 x4 S = (if x4 < x2 then (bnd (A_add N 84 125 S) fun v4 S5 => chk (rI (x4 + 1)) <| (A_prefix_l109 N n) x2 (x4 + 1) S5) else (some (0, S))) := rfl
def A_prefix_j106 (N : Nat) (x2 : Int) (S : s_M) : rO := A_prefix_l109 N N x2 0 S
theorem A_prefix_j106_e (N : Nat) (x2 : Int) (S : s_M) : A_prefix_j106 N x2 S = (A_prefix_l109 N N x2 0 S) := rfl
def A_prefix_l13 (N : Nat) : Nat → Int → Int → Int → Int → s_M → rO
  | 0, _, _, _, _, _ => none
  | n + 1, x1, x2, x3, x4, S => if x4 < (S 3 82) then (if x3 < x1 then (bnd (A_at N 82 x4 S) fun v19 S20 => chk (rI (x2 + (if v19 = 123 then (1 : Int) else (if v19 = 125 then (if 0 < x2 then ((-1) : Int) else 0 : Int) else 0)))) <| chk (rI (x3 + (if v19 = 123 then (0 : Int) else (if v19 = 125 then (0 : Int) else 1)))) <| bnd (A_add N 84 v19 S20) fun v37 S38 => chk (rI (x4 + 1)) <| (A_prefix_l13 N n) x1 (x2 + (if v19 = 123 then (1 : Int) else (if v19 = 125 then (if 0 < x2 then ((-1) : Int) else 0 : Int) else 0))) (x3 + (if v19 = 123 then (0 : Int) else (if v19 = 125 then (0 : Int) else 1))) (x4 + 1) S38) else (A_prefix_j106 N x2 S)) else (A_prefix_j106 N x2 S)
theorem A_prefix_l13_e (N : Nat) (n : Nat) (x1 x2 x3 x4 : Int) (S : s_M) : A_prefix_l13 N (n + 1) x1 x2 x3 x4 S = (if x4 < (S 3 82) then (if x3 < x1 then (bnd (A_at N 82 x4 S) fun v19 S20 => chk (rI (x2 + (if v19 = 123 then (1 : Int) else (if v19 = 125 then (if 0 < x2 then ((-1) : Int) else 0 : Int) else 0)))) <| chk (rI (x3 + (if v19 = 123 then (0 : Int) else (if v19 = 125 then (0 : Int) else 1)))) <| bnd (A_add N 84 v19 S20) fun v37 S38 => chk (rI (x4 + 1)) <| (A_prefix_l13 N n) x1 (x2 + (if v19 = 123 then (1 : Int) else (if v19 = 125 then (if 0 < x2 then ((-1) : Int) else 0 : Int) else 0))) (x3 + (if v19 = 123 then (0 : Int) else (if v19 = 125 then (0 : Int) else 1))) (x4 + 1) S38) else (A_prefix_j106 N x2 S)) else (A_prefix_j106 N x2 S)) := rfl
def A_prefix (N : Nat) (x1 : Int) (S : s_M) : rO := bnd (A_clearText N 84 S) fun v46 S47 => A_prefix_l13 N N x1 0 0 0 S47
theorem A_prefix_e (N : Nat) (x1 : Int) (S : s_M) : A_prefix N x1 S = (bnd (A_clearText N 84 S) fun v46 S47 => A_prefix_l13 N N x1 0 0 0 S47) := rfl
set_option maxHeartbeats 4000000 in
set_option maxRecDepth 100000 in
theorem a_prefix (l : Launch) (D : va_G) {sh : s_S} {M0 M : s_M} {sz r x1 : Int} {N : Nat} {S S0 : s_M} {v0 : Int} (h : mq sh M0 M r S) (hx1 : rI x1) (hF : A_prefix N x1 S = some (v0, S0)) : Sp l D y_Model_prefix prog_14_method_69_code 6 none 2 0 0 [vr r, vi x1] sh M sz (fun v' sh' M' sz' => v' = none ∧ sh' = sh ∧ sz' = sz ∧ mq sh M0 M' r S0) := by
  have hr0 := h.1.2.1
  refine Sp.ofGo (own := "CiteForgeModel") (nm := "prefix") (by decide) rfl rfl (Nat.le_of_ble_eq_true rfl) (lv := [(0, vr r), (1, vi x1)]) rfl ?_
  intro g X
  have hL109 : ∀ (n109 : Nat) (x2 x4 : Int) (S1 M1 : s_M), rI x2 → rI x4 → mq sh M0 M1 r S1 → A_prefix_l109 N n109 x2 x4 S1 = some (v0, S0) → Go g 0 0 sh M1 sz 109 [(0, vr r), (2, vi x2), (4, vi x4)] [] := by
    intro n109
    induction n109 with
    | zero => intro x2 x4 S1 M1 hx2 hx4 hm hF; cases hF
    | succ n109 ih109 =>
      intro x2 x4 S1 M1 hx2 hx4 hm hF
      rw [A_prefix_l109_e] at hF
      refine go_iload X d_Model_prefix_109 rfl ?_
      refine go_iload_n X d_Model_prefix_111 rfl rfl ?_
      refine go_icmp_ge (tgt := 129) X d_Model_prefix_112 rfl hx4 hx2 (fun hq1 => ?_) (fun hq1 => ?_)
      · skip
        have hF2 := if_f hF (Int.not_lt.mpr hq1)
        exact go_vret X d_Model_prefix_129 rfl (by decide) (by decide) (ret_v hF2 hm)
      · skip
        have hF3 := if_t hF hq1
        refine go_aload_n X d_Model_prefix_115 rfl rfl ?_
        refine go_bipush (v := 84) X d_Model_prefix_116 (by decide) ?_
        refine go_bipush (v := 125) X d_Model_prefix_118 (by decide) ?_
        obtain ⟨v4, S5, hG6, hF7⟩ := bnd_t hF3
        refine go_cV (st2 := []) (r := []) X k_Model_124 (a_add l D hm (by decide) (by decide) hG6) hm.1.1 rfl rfl (by decide) (Nat.le_of_ble_eq_true rfl) d_Model_prefix_120 (by decide) (by decide) (fun v' sh' M8 sz' hpp => ?_)
        obtain ⟨e1, e2, e3, md9⟩ := hpp
        subst e1
        rw [e2, e3]
        clear e2 e3
        show Go g 0 0 sh M8 sz 123 [(0, vr r), (2, vi x2), (4, vi x4)] []
        obtain ⟨hc11, hF12⟩ := chk_t hF7
        refine go_iinc (v := 1) (x := x4) (lv' := [(4, vi (x4 + 1)), (0, vr r), (2, vi x2)]) X d_Model_prefix_123 rfl (by decide) rfl ?_
        refine go_goto (tgt := 109) X d_Model_prefix_126 rfl ?_
        refine go_lv (lv' := [(0, vr r), (2, vi x2), (4, vi (x4 + 1))]) X [1, 2, 0] rfl ?_
        exact ih109 x2 (x4 + 1) S5 M8 hx2 hc11 md9 hF12
  have hJ106 : ∀ (x2 : Int) (S1 M1 : s_M), rI x2 → mq sh M0 M1 r S1 → A_prefix_j106 N x2 S1 = some (v0, S0) → Go g 0 0 sh M1 sz 106 [(0, vr r), (2, vi x2)] [] := by
    intro x2 S1 M1 hx2 hm hF
    rw [A_prefix_j106_e] at hF
    refine go_iconst (v := 0) X d_Model_prefix_106 ?_
    refine go_istore (lv' := [(4, vi 0), (0, vr r), (2, vi x2)]) X d_Model_prefix_107 (by decide) rfl ?_
    refine go_lv (lv' := [(0, vr r), (2, vi x2), (4, vi 0)]) X [1, 2, 0] rfl ?_
    exact hL109 N x2 0 S1 M1 hx2 (by decide) hm hF
  have hL13 : ∀ (n13 : Nat) (x1 x2 x3 x4 : Int) (S1 M1 : s_M), rI x1 → rI x2 → rI x3 → rI x4 → mq sh M0 M1 r S1 → A_prefix_l13 N n13 x1 x2 x3 x4 S1 = some (v0, S0) → Go g 0 0 sh M1 sz 13 [(0, vr r), (1, vi x1), (2, vi x2), (3, vi x3), (4, vi x4)] [] := by
    intro n13
    induction n13 with
    | zero => intro x1 x2 x3 x4 S1 M1 hx1 hx2 hx3 hx4 hm hF; cases hF
    | succ n13 ih13 =>
      intro x1 x2 x3 x4 S1 M1 hx1 hx2 hx3 hx4 hm hF
      rw [A_prefix_l13_e] at hF
      refine go_iload X d_Model_prefix_13 rfl ?_
      refine go_aload_n X d_Model_prefix_15 rfl rfl ?_
      refine go_get (v := vr (r + 3)) X f_Model_16 hm.1.1 rfl d_Model_prefix_16 (s_varr (hm.1.2.2 2 _ rfl).2 (by omega)) ?_
      refine go_bipush (v := 82) X d_Model_prefix_19 (by decide) ?_
      refine go_iald X (hm.1.2.2 2 _ rfl).1 (by decide) (by decide) d_Model_prefix_21 ?_
      refine go_top (v' := vi (S1 3 82)) X (congrArg (fun q => vi q) ((hm.a (by decide) 82).trans (rfl))) ?_
      refine go_icmp_ge (tgt := 106) X d_Model_prefix_22 rfl hx4 (hm.gA (by decide) 82) (fun hq13 => ?_) (fun hq13 => ?_)
      · skip
        have hF14 := if_f hF (Int.not_lt.mpr hq13)
        refine go_lv (lv' := [(0, vr r), (2, vi x2)]) X [0, 2] rfl ?_
        exact hJ106 x2 S1 M1 hx2 hm hF14
      · skip
        have hF15 := if_t hF hq13
        refine go_iload_n X d_Model_prefix_25 rfl rfl ?_
        refine go_iload_n X d_Model_prefix_26 rfl rfl ?_
        refine go_icmp_ge (tgt := 106) X d_Model_prefix_27 rfl hx3 hx1 (fun hq16 => ?_) (fun hq16 => ?_)
        · skip
          have hF17 := if_f hF15 (Int.not_lt.mpr hq16)
          refine go_lv (lv' := [(0, vr r), (2, vi x2)]) X [0, 2] rfl ?_
          exact hJ106 x2 S1 M1 hx2 hm hF17
        · skip
          have hF18 := if_t hF15 hq16
          refine go_aload_n X d_Model_prefix_30 rfl rfl ?_
          refine go_bipush (v := 82) X d_Model_prefix_31 (by decide) ?_
          refine go_iload X d_Model_prefix_33 rfl ?_
          obtain ⟨v19, S20, hG21, hF22⟩ := bnd_t hF18
          refine go_cV (st2 := []) (r := []) X k_Model_99 (a_at l D hm (by decide) hx4 hG21) hm.1.1 rfl rfl (by decide) (Nat.le_of_ble_eq_true rfl) d_Model_prefix_35 (by decide) (by decide) (fun v' sh' M23 sz' hpp => ?_)
          obtain ⟨e1, e2, e3, hv25, md24⟩ := hpp
          subst e1
          rw [e2, e3]
          clear e2 e3
          show Go g 0 0 sh M23 sz 38 [(0, vr r), (1, vi x1), (2, vi x2), (3, vi x3), (4, vi x4)] [vi v19]
          refine go_istore (lv' := [(5, vi v19), (0, vr r), (1, vi x1), (2, vi x2), (3, vi x3), (4, vi x4)]) X d_Model_prefix_38 (by decide) rfl ?_
          refine go_iload_n X d_Model_prefix_40 rfl rfl ?_
          refine go_iload X d_Model_prefix_41 rfl ?_
          refine go_bipush (v := 123) X d_Model_prefix_43 (by decide) ?_
          suffices hv26 : Go g 0 0 sh M23 sz 68 [(5, vi v19), (0, vr r), (1, vi x1), (2, vi x2), (3, vi x3), (4, vi x4)] [vi (if v19 = 123 then (1 : Int) else (if v19 = 125 then (if 0 < x2 then ((-1) : Int) else 0 : Int) else 0)), vi x2] by
            refine go_icmp_ne (tgt := 52) X d_Model_prefix_45 rfl hv25 (by decide) (fun hq27 => ?_) (fun hq27 => ?_)
            · skip
              refine go_iload X d_Model_prefix_52 rfl ?_
              refine go_bipush (v := 125) X d_Model_prefix_54 (by decide) ?_
              refine go_icmp_ne (tgt := 67) X d_Model_prefix_56 rfl hv25 (by decide) (fun hq28 => ?_) (fun hq28 => ?_)
              · skip
                refine go_iconst (v := 0) X d_Model_prefix_67 ?_
                refine go_top (v' := vi (if v19 = 123 then (1 : Int) else (if v19 = 125 then (if 0 < x2 then ((-1) : Int) else 0 : Int) else 0))) X (congrArg (fun q => vi q) (show 0 = if v19 = 123 then (1 : Int) else (if v19 = 125 then (if 0 < x2 then ((-1) : Int) else 0 : Int) else 0) from ((if_neg hq27).trans ((if_neg hq28))).symm)) ?_
                exact hv26
              · skip
                refine go_iload_n X d_Model_prefix_59 rfl rfl ?_
                refine go_if_le (tgt := 67) X d_Model_prefix_60 rfl hx2 (fun hq29 => ?_) (fun hq29 => ?_)
                · skip
                  refine go_iconst (v := 0) X d_Model_prefix_67 ?_
                  refine go_top (v' := vi (if v19 = 123 then (1 : Int) else (if v19 = 125 then (if 0 < x2 then ((-1) : Int) else 0 : Int) else 0))) X (congrArg (fun q => vi q) (show 0 = if v19 = 123 then (1 : Int) else (if v19 = 125 then (if 0 < x2 then ((-1) : Int) else 0 : Int) else 0) from ((if_neg hq27).trans ((if_pos hq28).trans ((if_neg (Int.not_lt.mpr hq29))))).symm)) ?_
                  exact hv26
                · skip
                  refine go_iconst (v := (-1)) X d_Model_prefix_63 ?_
                  refine go_goto (tgt := 68) X d_Model_prefix_64 rfl ?_
                  refine go_top (v' := vi (if v19 = 123 then (1 : Int) else (if v19 = 125 then (if 0 < x2 then ((-1) : Int) else 0 : Int) else 0))) X (congrArg (fun q => vi q) (show (-1) = if v19 = 123 then (1 : Int) else (if v19 = 125 then (if 0 < x2 then ((-1) : Int) else 0 : Int) else 0) from ((if_neg hq27).trans ((if_pos hq28).trans ((if_pos hq29)))).symm)) ?_
                  exact hv26
            · skip
              refine go_iconst (v := 1) X d_Model_prefix_48 ?_
              refine go_goto (tgt := 68) X d_Model_prefix_49 rfl ?_
              refine go_top (v' := vi (if v19 = 123 then (1 : Int) else (if v19 = 125 then (if 0 < x2 then ((-1) : Int) else 0 : Int) else 0))) X (congrArg (fun q => vi q) (show 1 = if v19 = 123 then (1 : Int) else (if v19 = 125 then (if 0 < x2 then ((-1) : Int) else 0 : Int) else 0) from ((if_pos hq27)).symm)) ?_
              exact hv26
          refine go_iadd X d_Model_prefix_68 ?_
          obtain ⟨hc30, hF31⟩ := chk_t hF22
          refine go_istore_n (lv' := [(2, vi (x2 + (if v19 = 123 then (1 : Int) else (if v19 = 125 then (if 0 < x2 then ((-1) : Int) else 0 : Int) else 0)))), (5, vi v19), (0, vr r), (1, vi x1), (3, vi x3), (4, vi x4)]) X d_Model_prefix_69 rfl (by decide) rfl ?_
          refine go_iload_n X d_Model_prefix_70 rfl rfl ?_
          refine go_iload X d_Model_prefix_71 rfl ?_
          refine go_bipush (v := 123) X d_Model_prefix_73 (by decide) ?_
          suffices hv32 : Go g 0 0 sh M23 sz 90 [(2, vi (x2 + (if v19 = 123 then (1 : Int) else (if v19 = 125 then (if 0 < x2 then ((-1) : Int) else 0 : Int) else 0)))), (5, vi v19), (0, vr r), (1, vi x1), (3, vi x3), (4, vi x4)] [vi (if v19 = 123 then (0 : Int) else (if v19 = 125 then (0 : Int) else 1)), vi x3] by
            refine go_icmp_eq (tgt := 85) X d_Model_prefix_75 rfl hv25 (by decide) (fun hq33 => ?_) (fun hq33 => ?_)
            · skip
              refine go_iconst (v := 0) X d_Model_prefix_85 ?_
              refine go_goto (tgt := 90) X d_Model_prefix_86 rfl ?_
              refine go_top (v' := vi (if v19 = 123 then (0 : Int) else (if v19 = 125 then (0 : Int) else 1))) X (congrArg (fun q => vi q) (show 0 = if v19 = 123 then (0 : Int) else (if v19 = 125 then (0 : Int) else 1) from ((if_pos hq33)).symm)) ?_
              exact hv32
            · skip
              refine go_iload X d_Model_prefix_78 rfl ?_
              refine go_bipush (v := 125) X d_Model_prefix_80 (by decide) ?_
              refine go_icmp_ne (tgt := 89) X d_Model_prefix_82 rfl hv25 (by decide) (fun hq34 => ?_) (fun hq34 => ?_)
              · skip
                refine go_iconst (v := 1) X d_Model_prefix_89 ?_
                refine go_top (v' := vi (if v19 = 123 then (0 : Int) else (if v19 = 125 then (0 : Int) else 1))) X (congrArg (fun q => vi q) (show 1 = if v19 = 123 then (0 : Int) else (if v19 = 125 then (0 : Int) else 1) from ((if_neg hq33).trans ((if_neg hq34))).symm)) ?_
                exact hv32
              · skip
                refine go_iconst (v := 0) X d_Model_prefix_85 ?_
                refine go_goto (tgt := 90) X d_Model_prefix_86 rfl ?_
                refine go_top (v' := vi (if v19 = 123 then (0 : Int) else (if v19 = 125 then (0 : Int) else 1))) X (congrArg (fun q => vi q) (show 0 = if v19 = 123 then (0 : Int) else (if v19 = 125 then (0 : Int) else 1) from ((if_neg hq33).trans ((if_pos hq34))).symm)) ?_
                exact hv32
          refine go_iadd X d_Model_prefix_90 ?_
          obtain ⟨hc35, hF36⟩ := chk_t hF31
          refine go_istore_n (lv' := [(3, vi (x3 + (if v19 = 123 then (0 : Int) else (if v19 = 125 then (0 : Int) else 1)))), (2, vi (x2 + (if v19 = 123 then (1 : Int) else (if v19 = 125 then (if 0 < x2 then ((-1) : Int) else 0 : Int) else 0)))), (5, vi v19), (0, vr r), (1, vi x1), (4, vi x4)]) X d_Model_prefix_91 rfl (by decide) rfl ?_
          refine go_aload_n X d_Model_prefix_92 rfl rfl ?_
          refine go_bipush (v := 84) X d_Model_prefix_93 (by decide) ?_
          refine go_iload X d_Model_prefix_95 rfl ?_
          obtain ⟨v37, S38, hG39, hF40⟩ := bnd_t hF36
          refine go_cV (st2 := []) (r := []) X k_Model_124 (a_add l D md24 (by decide) hv25 hG39) md24.1.1 rfl rfl (by decide) (Nat.le_of_ble_eq_true rfl) d_Model_prefix_97 (by decide) (by decide) (fun v' sh' M41 sz' hpp => ?_)
          obtain ⟨e1, e2, e3, md42⟩ := hpp
          subst e1
          rw [e2, e3]
          clear e2 e3
          show Go g 0 0 sh M41 sz 100 [(3, vi (x3 + (if v19 = 123 then (0 : Int) else (if v19 = 125 then (0 : Int) else 1)))), (2, vi (x2 + (if v19 = 123 then (1 : Int) else (if v19 = 125 then (if 0 < x2 then ((-1) : Int) else 0 : Int) else 0)))), (5, vi v19), (0, vr r), (1, vi x1), (4, vi x4)] []
          obtain ⟨hc44, hF45⟩ := chk_t hF40
          refine go_iinc (v := 1) (x := x4) (lv' := [(4, vi (x4 + 1)), (3, vi (x3 + (if v19 = 123 then (0 : Int) else (if v19 = 125 then (0 : Int) else 1)))), (2, vi (x2 + (if v19 = 123 then (1 : Int) else (if v19 = 125 then (if 0 < x2 then ((-1) : Int) else 0 : Int) else 0)))), (5, vi v19), (0, vr r), (1, vi x1)]) X d_Model_prefix_100 rfl (by decide) rfl ?_
          refine go_goto (tgt := 13) X d_Model_prefix_103 rfl ?_
          refine go_lv (lv' := [(0, vr r), (1, vi x1), (2, vi (x2 + (if v19 = 123 then (1 : Int) else (if v19 = 125 then (if 0 < x2 then ((-1) : Int) else 0 : Int) else 0)))), (3, vi (x3 + (if v19 = 123 then (0 : Int) else (if v19 = 125 then (0 : Int) else 1)))), (4, vi (x4 + 1))]) X [4, 5, 2, 1, 0] rfl ?_
          exact ih13 x1 (x2 + (if v19 = 123 then (1 : Int) else (if v19 = 125 then (if 0 < x2 then ((-1) : Int) else 0 : Int) else 0))) (x3 + (if v19 = 123 then (0 : Int) else (if v19 = 125 then (0 : Int) else 1))) (x4 + 1) S38 M41 hx1 hc30 hc35 hc44 md42 hF45
  rw [A_prefix_e] at hF
  refine go_aload_n X d_Model_prefix_0 rfl rfl ?_
  refine go_bipush (v := 84) X d_Model_prefix_1 (by decide) ?_
  obtain ⟨v46, S47, hG48, hF49⟩ := bnd_t hF
  refine go_cV (st2 := []) (r := []) X k_Model_120 (a_clearText l D h (by decide) hG48) h.1.1 rfl rfl (by decide) (Nat.le_of_ble_eq_true rfl) d_Model_prefix_3 (by decide) (by decide) (fun v' sh' M50 sz' hpp => ?_)
  obtain ⟨e1, e2, e3, md51⟩ := hpp
  subst e1
  rw [e2, e3]
  clear e2 e3
  show Go g 0 0 sh M50 sz 6 [(0, vr r), (1, vi x1)] []
  refine go_iconst (v := 0) X d_Model_prefix_6 ?_
  refine go_istore_n (lv' := [(2, vi 0), (0, vr r), (1, vi x1)]) X d_Model_prefix_7 rfl (by decide) rfl ?_
  refine go_iconst (v := 0) X d_Model_prefix_8 ?_
  refine go_istore_n (lv' := [(3, vi 0), (2, vi 0), (0, vr r), (1, vi x1)]) X d_Model_prefix_9 rfl (by decide) rfl ?_
  refine go_iconst (v := 0) X d_Model_prefix_10 ?_
  refine go_istore (lv' := [(4, vi 0), (3, vi 0), (2, vi 0), (0, vr r), (1, vi x1)]) X d_Model_prefix_11 (by decide) rfl ?_
  refine go_lv (lv' := [(0, vr r), (1, vi x1), (2, vi 0), (3, vi 0), (4, vi 0)]) X [3, 4, 2, 1, 0] rfl ?_
  exact hL13 N x1 0 0 0 S47 M50 hx1 (by decide) (by decide) (by decide) md51 hF49
def A_purified_j74 (N : Nat) (k8 : Int → s_M → rO) (x1 : Int) (S : s_M) : rO := chk (rI (x1 + 1)) <| k8 (x1 + 1) S
theorem A_purified_j74_e (N : Nat) (k8 : Int → s_M → rO) (x1 : Int) (S : s_M) : A_purified_j74 N k8 x1 S = (chk (rI (x1 + 1)) <| k8 (x1 + 1) S) := rfl
def A_purified_j66 (N : Nat) (k8 : Int → s_M → rO) (x1 : Int) (S : s_M) : rO := bnd (A_add N 84 32 S) fun v3 S4 => A_purified_j74 N k8 x1 S4
theorem A_purified_j66_e (N : Nat) (k8 : Int → s_M → rO) (x1 : Int) (S : s_M) : A_purified_j66 N k8 x1 S = (bnd (A_add N 84 32 S) fun v3 S4 => A_purified_j74 N k8 x1 S4) := rfl
def A_purified_j54 (N : Nat) (k8 : Int → s_M → rO) (x1 x2 : Int) (S : s_M) : rO := if x2 = 45 then (A_purified_j66 N k8 x1 S) else (if x2 = 126 then (A_purified_j66 N k8 x1 S) else (A_purified_j74 N k8 x1 S))
theorem A_purified_j54_e (N : Nat) (k8 : Int → s_M → rO) (x1 x2 : Int) (S : s_M) : A_purified_j54 N k8 x1 x2 S = (if x2 = 45 then (A_purified_j66 N k8 x1 S) else (if x2 = 126 then (A_purified_j66 N k8 x1 S) else (A_purified_j74 N k8 x1 S))) := rfl
def A_purified_j47 (N : Nat) (k8 : Int → s_M → rO) (x1 x2 : Int) (S : s_M) : rO := bnd (A_add N 84 x2 S) fun v16 S17 => A_purified_j54 N k8 x1 x2 S17
theorem A_purified_j47_e (N : Nat) (k8 : Int → s_M → rO) (x1 x2 : Int) (S : s_M) : A_purified_j47 N k8 x1 x2 S = (bnd (A_add N 84 x2 S) fun v16 S17 => A_purified_j54 N k8 x1 x2 S17) := rfl
def A_purified_l8 (N : Nat) : Nat → Int → s_M → rO
  | 0, _, _ => none
  | n + 1, x1, S => if x1 < (S 3 82) then (bnd (A_at N 82 x1 S) fun v26 S27 => if (p_let v26) = true then (A_purified_j47 N (A_purified_l8 N n) x1 v26 S27) else (if (p_dig v26) = true then (A_purified_j47 N (A_purified_l8 N n) x1 v26 S27) else (if v26 = 32 then (A_purified_j47 N (A_purified_l8 N n) x1 v26 S27) else (A_purified_j54 N (A_purified_l8 N n) x1 v26 S27)))) else (some (0, S))
theorem A_purified_l8_e (N : Nat) (n : Nat) (x1 : Int) (S : s_M) : A_purified_l8 N (n + 1) x1 S = (if x1 < (S 3 82) then (bnd (A_at N 82 x1 S) fun v26 S27 => if (p_let v26) = true then (A_purified_j47 N (A_purified_l8 N n) x1 v26 S27) else (if (p_dig v26) = true then (A_purified_j47 N (A_purified_l8 N n) x1 v26 S27) else (if v26 = 32 then (A_purified_j47 N (A_purified_l8 N n) x1 v26 S27) else (A_purified_j54 N (A_purified_l8 N n) x1 v26 S27)))) else (some (0, S))) := rfl
def A_purified (N : Nat) (S : s_M) : rO := bnd (A_clearText N 84 S) fun v42 S43 => A_purified_l8 N N 0 S43
theorem A_purified_e (N : Nat) (S : s_M) : A_purified N S = (bnd (A_clearText N 84 S) fun v42 S43 => A_purified_l8 N N 0 S43) := rfl
set_option maxHeartbeats 4000000 in
set_option maxRecDepth 100000 in
theorem a_purified (l : Launch) (D : va_G) {sh : s_S} {M0 M : s_M} {sz r  : Int} {N : Nat} {S S0 : s_M} {v0 : Int} (h : mq sh M0 M r S) (hF : A_purified N S = some (v0, S0)) : Sp l D y_Model_purified prog_14_method_68_code 3 none 3 0 0 [vr r] sh M sz (fun v' sh' M' sz' => v' = none ∧ sh' = sh ∧ sz' = sz ∧ mq sh M0 M' r S0) := by
  have hr0 := h.1.2.1
  refine Sp.ofGo (own := "CiteForgeModel") (nm := "purified") (by decide) rfl rfl (Nat.le_of_ble_eq_true rfl) (lv := [(0, vr r)]) rfl ?_
  intro g X
  have hL8 : ∀ (n8 : Nat) (x1 : Int) (S1 M1 : s_M), rI x1 → mq sh M0 M1 r S1 → A_purified_l8 N n8 x1 S1 = some (v0, S0) → Go g 0 0 sh M1 sz 8 [(0, vr r), (1, vi x1)] [] := by
    intro n8
    induction n8 with
    | zero => intro x1 S1 M1 hx1 hm hF; cases hF
    | succ n8 ih8 =>
      have hJ74 : ∀ (x1 : Int) (S1 M1 : s_M), rI x1 → mq sh M0 M1 r S1 → A_purified_j74 N (A_purified_l8 N n8) x1 S1 = some (v0, S0) → Go g 0 0 sh M1 sz 74 [(0, vr r), (1, vi x1)] [] := by
        intro x1 S1 M1 hx1 hm hF
        rw [A_purified_j74_e] at hF
        obtain ⟨hc1, hF2⟩ := chk_t hF
        refine go_iinc (v := 1) (x := x1) (lv' := [(1, vi (x1 + 1)), (0, vr r)]) X d_Model_purified_74 rfl (by decide) rfl ?_
        refine go_goto (tgt := 8) X d_Model_purified_77 rfl ?_
        refine go_lv (lv' := [(0, vr r), (1, vi (x1 + 1))]) X [1, 0] rfl ?_
        exact ih8 (x1 + 1) S1 M1 hc1 hm hF2
      have hJ66 : ∀ (x1 : Int) (S1 M1 : s_M), rI x1 → mq sh M0 M1 r S1 → A_purified_j66 N (A_purified_l8 N n8) x1 S1 = some (v0, S0) → Go g 0 0 sh M1 sz 66 [(0, vr r), (1, vi x1)] [] := by
        intro x1 S1 M1 hx1 hm hF
        rw [A_purified_j66_e] at hF
        refine go_aload_n X d_Model_purified_66 rfl rfl ?_
        refine go_bipush (v := 84) X d_Model_purified_67 (by decide) ?_
        refine go_bipush (v := 32) X d_Model_purified_69 (by decide) ?_
        obtain ⟨v3, S4, hG5, hF6⟩ := bnd_t hF
        refine go_cV (st2 := []) (r := []) X k_Model_124 (a_add l D hm (by decide) (by decide) hG5) hm.1.1 rfl rfl (by decide) (Nat.le_of_ble_eq_true rfl) d_Model_purified_71 (by decide) (by decide) (fun v' sh' M7 sz' hpp => ?_)
        obtain ⟨e1, e2, e3, md8⟩ := hpp
        subst e1
        rw [e2, e3]
        clear e2 e3
        show Go g 0 0 sh M7 sz 74 [(0, vr r), (1, vi x1)] []
        refine go_lv (lv' := [(0, vr r), (1, vi x1)]) X [0, 1] rfl ?_
        exact hJ74 x1 S4 M7 hx1 md8 hF6
      have hJ54 : ∀ (x1 x2 : Int) (S1 M1 : s_M), rI x1 → rI x2 → mq sh M0 M1 r S1 → A_purified_j54 N (A_purified_l8 N n8) x1 x2 S1 = some (v0, S0) → Go g 0 0 sh M1 sz 54 [(0, vr r), (1, vi x1), (2, vi x2)] [] := by
        intro x1 x2 S1 M1 hx1 hx2 hm hF
        rw [A_purified_j54_e] at hF
        refine go_iload_n X d_Model_purified_54 rfl rfl ?_
        refine go_bipush (v := 45) X d_Model_purified_55 (by decide) ?_
        refine go_icmp_eq (tgt := 66) X d_Model_purified_57 rfl hx2 (by decide) (fun hq10 => ?_) (fun hq10 => ?_)
        · skip
          have hF11 := if_t hF hq10
          refine go_lv (lv' := [(0, vr r), (1, vi x1)]) X [0, 1] rfl ?_
          exact hJ66 x1 S1 M1 hx1 hm hF11
        · skip
          have hF12 := if_f hF hq10
          refine go_iload_n X d_Model_purified_60 rfl rfl ?_
          refine go_bipush (v := 126) X d_Model_purified_61 (by decide) ?_
          refine go_icmp_ne (tgt := 74) X d_Model_purified_63 rfl hx2 (by decide) (fun hq13 => ?_) (fun hq13 => ?_)
          · skip
            have hF14 := if_f hF12 hq13
            refine go_lv (lv' := [(0, vr r), (1, vi x1)]) X [0, 1] rfl ?_
            exact hJ74 x1 S1 M1 hx1 hm hF14
          · skip
            have hF15 := if_t hF12 hq13
            refine go_lv (lv' := [(0, vr r), (1, vi x1)]) X [0, 1] rfl ?_
            exact hJ66 x1 S1 M1 hx1 hm hF15
      have hJ47 : ∀ (x1 x2 : Int) (S1 M1 : s_M), rI x1 → rI x2 → mq sh M0 M1 r S1 → A_purified_j47 N (A_purified_l8 N n8) x1 x2 S1 = some (v0, S0) → Go g 0 0 sh M1 sz 47 [(0, vr r), (1, vi x1), (2, vi x2)] [] := by
        intro x1 x2 S1 M1 hx1 hx2 hm hF
        rw [A_purified_j47_e] at hF
        refine go_aload_n X d_Model_purified_47 rfl rfl ?_
        refine go_bipush (v := 84) X d_Model_purified_48 (by decide) ?_
        refine go_iload_n X d_Model_purified_50 rfl rfl ?_
        obtain ⟨v16, S17, hG18, hF19⟩ := bnd_t hF
        refine go_cV (st2 := []) (r := []) X k_Model_124 (a_add l D hm (by decide) hx2 hG18) hm.1.1 rfl rfl (by decide) (Nat.le_of_ble_eq_true rfl) d_Model_purified_51 (by decide) (by decide) (fun v' sh' M20 sz' hpp => ?_)
        obtain ⟨e1, e2, e3, md21⟩ := hpp
        subst e1
        rw [e2, e3]
        clear e2 e3
        show Go g 0 0 sh M20 sz 54 [(0, vr r), (1, vi x1), (2, vi x2)] []
        refine go_lv (lv' := [(0, vr r), (1, vi x1), (2, vi x2)]) X [0, 1, 2] rfl ?_
        exact hJ54 x1 x2 S17 M20 hx1 hx2 md21 hF19
      intro x1 S1 M1 hx1 hm hF
      rw [A_purified_l8_e] at hF
      refine go_iload_n X d_Model_purified_8 rfl rfl ?_
      refine go_aload_n X d_Model_purified_9 rfl rfl ?_
      refine go_get (v := vr (r + 3)) X f_Model_16 hm.1.1 rfl d_Model_purified_10 (s_varr (hm.1.2.2 2 _ rfl).2 (by omega)) ?_
      refine go_bipush (v := 82) X d_Model_purified_13 (by decide) ?_
      refine go_iald X (hm.1.2.2 2 _ rfl).1 (by decide) (by decide) d_Model_purified_15 ?_
      refine go_top (v' := vi (S1 3 82)) X (congrArg (fun q => vi q) ((hm.a (by decide) 82).trans (rfl))) ?_
      refine go_icmp_ge (tgt := 80) X d_Model_purified_16 rfl hx1 (hm.gA (by decide) 82) (fun hq23 => ?_) (fun hq23 => ?_)
      · skip
        have hF24 := if_f hF (Int.not_lt.mpr hq23)
        exact go_vret X d_Model_purified_80 rfl (by decide) (by decide) (ret_v hF24 hm)
      · skip
        have hF25 := if_t hF hq23
        refine go_aload_n X d_Model_purified_19 rfl rfl ?_
        refine go_bipush (v := 82) X d_Model_purified_20 (by decide) ?_
        refine go_iload_n X d_Model_purified_22 rfl rfl ?_
        obtain ⟨v26, S27, hG28, hF29⟩ := bnd_t hF25
        refine go_cV (st2 := []) (r := []) X k_Model_99 (a_at l D hm (by decide) hx1 hG28) hm.1.1 rfl rfl (by decide) (Nat.le_of_ble_eq_true rfl) d_Model_purified_23 (by decide) (by decide) (fun v' sh' M30 sz' hpp => ?_)
        obtain ⟨e1, e2, e3, hv32, md31⟩ := hpp
        subst e1
        rw [e2, e3]
        clear e2 e3
        show Go g 0 0 sh M30 sz 26 [(0, vr r), (1, vi x1)] [vi v26]
        refine go_istore_n (lv' := [(2, vi v26), (0, vr r), (1, vi x1)]) X d_Model_purified_26 rfl (by decide) rfl ?_
        refine go_iload_n X d_Model_purified_27 rfl rfl ?_
        refine go_cSf (st2 := [vi (s_b (p_let v26))]) (r := []) X k_Model_107 (m_isLetter l D hv32) rfl rfl (by decide) (Nat.le_of_ble_eq_true rfl) d_Model_purified_28 (by decide) (by decide) rfl ?_
        refine go_ifb_ne (tgt := 47) X d_Model_purified_31 rfl (fun hq33 => ?_) (fun hq33 => ?_)
        · skip
          have hF34 := if_t hF29 hq33
          refine go_lv (lv' := [(0, vr r), (1, vi x1), (2, vi v26)]) X [1, 2, 0] rfl ?_
          exact hJ47 x1 v26 S27 M30 hx1 hv32 md31 hF34
        · skip
          have hF35 := if_f hF29 (bnf hq33)
          refine go_iload_n X d_Model_purified_34 rfl rfl ?_
          refine go_cSf (st2 := [vi (s_b (p_dig v26))]) (r := []) X k_Model_111 (m_digit l D hv32) rfl rfl (by decide) (Nat.le_of_ble_eq_true rfl) d_Model_purified_35 (by decide) (by decide) rfl ?_
          refine go_ifb_ne (tgt := 47) X d_Model_purified_38 rfl (fun hq36 => ?_) (fun hq36 => ?_)
          · skip
            have hF37 := if_t hF35 hq36
            refine go_lv (lv' := [(0, vr r), (1, vi x1), (2, vi v26)]) X [1, 2, 0] rfl ?_
            exact hJ47 x1 v26 S27 M30 hx1 hv32 md31 hF37
          · skip
            have hF38 := if_f hF35 (bnf hq36)
            refine go_iload_n X d_Model_purified_41 rfl rfl ?_
            refine go_bipush (v := 32) X d_Model_purified_42 (by decide) ?_
            refine go_icmp_ne (tgt := 54) X d_Model_purified_44 rfl hv32 (by decide) (fun hq39 => ?_) (fun hq39 => ?_)
            · skip
              have hF40 := if_f hF38 hq39
              refine go_lv (lv' := [(0, vr r), (1, vi x1), (2, vi v26)]) X [1, 2, 0] rfl ?_
              exact hJ54 x1 v26 S27 M30 hx1 hv32 md31 hF40
            · skip
              have hF41 := if_t hF38 hq39
              refine go_lv (lv' := [(0, vr r), (1, vi x1), (2, vi v26)]) X [1, 2, 0] rfl ?_
              exact hJ47 x1 v26 S27 M30 hx1 hv32 md31 hF41
  rw [A_purified_e] at hF
  refine go_aload_n X d_Model_purified_0 rfl rfl ?_
  refine go_bipush (v := 84) X d_Model_purified_1 (by decide) ?_
  obtain ⟨v42, S43, hG44, hF45⟩ := bnd_t hF
  refine go_cV (st2 := []) (r := []) X k_Model_120 (a_clearText l D h (by decide) hG44) h.1.1 rfl rfl (by decide) (Nat.le_of_ble_eq_true rfl) d_Model_purified_3 (by decide) (by decide) (fun v' sh' M46 sz' hpp => ?_)
  obtain ⟨e1, e2, e3, md47⟩ := hpp
  subst e1
  rw [e2, e3]
  clear e2 e3
  show Go g 0 0 sh M46 sz 6 [(0, vr r)] []
  refine go_iconst (v := 0) X d_Model_purified_6 ?_
  refine go_istore_n (lv' := [(1, vi 0), (0, vr r)]) X d_Model_purified_7 rfl (by decide) rfl ?_
  refine go_lv (lv' := [(0, vr r), (1, vi 0)]) X [1, 0] rfl ?_
  exact hL8 N 0 S43 M46 (by decide) md47 hF45
def A_substring_j129 (N : Nat) (S : s_M) : rO := some (0, S)
theorem A_substring_j129_e (N : Nat) (S : s_M) : A_substring_j129 N S = (some (0, S)) := rfl
def A_substring_j120 (N : Nat) (k47 : Int → Int → Int → s_M → rO) (x2 x3 x5 : Int) (S : s_M) : rO := chk (rL (x5 + 1)) <| k47 x2 x3 (x5 + 1) S
theorem A_substring_j120_e (N : Nat) (k47 : Int → Int → Int → s_M → rO) (x2 x3 x5 : Int) (S : s_M) : A_substring_j120 N k47 x2 x3 x5 S = (chk (rL (x5 + 1)) <| k47 x2 x3 (x5 + 1) S) := rfl
def A_substring_j81 (N : Nat) (k47 : Int → Int → Int → s_M → rO) (x2 x3 x5 : Int) (S : s_M) : rO := chk (rL (x3 + x2)) <| if x5 < (x3 + x2) then (if x5 < (S 3 82) then (bnd (A_at N 82 (wi32 x5) S) fun v11 S12 => bnd (A_add N 84 v11 S12) fun v18 S19 => A_substring_j120 N k47 x2 x3 x5 S19) else (A_substring_j120 N k47 x2 x3 x5 S)) else (A_substring_j120 N k47 x2 x3 x5 S)
theorem A_substring_j81_e (N : Nat) (k47 : Int → Int → Int → s_M → rO) (x2 x3 x5 : Int) (S : s_M) : A_substring_j81 N k47 x2 x3 x5 S = (chk (rL (x3 + x2)) <| if x5 < (x3 + x2) then (if x5 < (S 3 82) then (bnd (A_at N 82 (wi32 x5) S) fun v11 S12 => bnd (A_add N 84 v11 S12) fun v18 S19 => A_substring_j120 N k47 x2 x3 x5 S19) else (A_substring_j120 N k47 x2 x3 x5 S)) else (A_substring_j120 N k47 x2 x3 x5 S)) := rfl
def A_substring_l47 (N : Nat) : Nat → Int → Int → Int → s_M → rO
  | 0, _, _, _, _ => none
  | n + 1, x2, x3, x5, S => chk (rL (x3 + x2)) <| if x5 < (x3 + x2) then (if x5 < (S 3 82) then (if x5 < 0 then (A_substring_j81 N (A_substring_l47 N n) x2 x3 0 S) else (A_substring_j81 N (A_substring_l47 N n) x2 x3 x5 S)) else (A_substring_j129 N  S)) else (A_substring_j129 N  S)
theorem A_substring_l47_e (N : Nat) (n : Nat) (x2 x3 x5 : Int) (S : s_M) : A_substring_l47 N (n + 1) x2 x3 x5 S = (chk (rL (x3 + x2)) <| if x5 < (x3 + x2) then (if x5 < (S 3 82) then (if x5 < 0 then (A_substring_j81 N (A_substring_l47 N n) x2 x3 0 S) else (A_substring_j81 N (A_substring_l47 N n) x2 x3 x5 S)) else (A_substring_j129 N  S)) else (A_substring_j129 N  S)) := rfl
def A_substring_j43 (N : Nat) (x2 y0 : Int) (S : s_M) : rO := A_substring_l47 N N x2 y0 y0 S
theorem A_substring_j43_e (N : Nat) (x2 y0 : Int) (S : s_M) : A_substring_j43 N x2 y0 S = (A_substring_l47 N N x2 y0 y0 S) := rfl
def A_substring_j15 (N : Nat) (S : s_M) : rO := some (0, S)
theorem A_substring_j15_e (N : Nat) (S : s_M) : A_substring_j15 N S = (some (0, S)) := rfl
def A_substring (N : Nat) (x1 x2 : Int) (S : s_M) : rO := bnd (A_clearText N 84 S) fun v36 S37 => if x1 = 0 then (A_substring_j15 N  S37) else (if x2 < 1 then (A_substring_j15 N  S37) else (if 0 < x1 then (chk (rL (x1 - 1)) <| A_substring_j43 N x2 (x1 - 1) S37) else (chk (rL ((S37 3 82) + x1)) <| chk (rL (((S37 3 82) + x1) - x2)) <| chk (rL ((((S37 3 82) + x1) - x2) + 1)) <| A_substring_j43 N x2 ((((S37 3 82) + x1) - x2) + 1) S37)))
theorem A_substring_e (N : Nat) (x1 x2 : Int) (S : s_M) : A_substring N x1 x2 S = (bnd (A_clearText N 84 S) fun v36 S37 => if x1 = 0 then (A_substring_j15 N  S37) else (if x2 < 1 then (A_substring_j15 N  S37) else (if 0 < x1 then (chk (rL (x1 - 1)) <| A_substring_j43 N x2 (x1 - 1) S37) else (chk (rL ((S37 3 82) + x1)) <| chk (rL (((S37 3 82) + x1) - x2)) <| chk (rL ((((S37 3 82) + x1) - x2) + 1)) <| A_substring_j43 N x2 ((((S37 3 82) + x1) - x2) + 1) S37)))) := rfl
set_option maxHeartbeats 4000000 in
set_option maxRecDepth 100000 in
theorem a_substring (l : Launch) (D : va_G) {sh : s_S} {M0 M : s_M} {sz r x1 x2 : Int} {N : Nat} {S S0 : s_M} {v0 : Int} (h : mq sh M0 M r S) (hx1 : rI x1) (hx2 : rI x2) (hF : A_substring N x1 x2 S = some (v0, S0)) : Sp l D y_Model_substring prog_14_method_70_code 7 none 2 0 0 [vr r, vi x1, vi x2] sh M sz (fun v' sh' M' sz' => v' = none ∧ sh' = sh ∧ sz' = sz ∧ mq sh M0 M' r S0) := by
  have hr0 := h.1.2.1
  refine Sp.ofGo (own := "CiteForgeModel") (nm := "substring") (by decide) rfl rfl (Nat.le_of_ble_eq_true rfl) (lv := [(0, vr r), (1, vi x1), (2, vi x2)]) rfl ?_
  intro g X
  have hJ129 : ∀ (S1 M1 : s_M), mq sh M0 M1 r S1 → A_substring_j129 N S1 = some (v0, S0) → Go g 0 0 sh M1 sz 129 [(0, vr r)] [] := by
    intro S1 M1 hm hF
    rw [A_substring_j129_e] at hF
    exact go_vret X d_Model_substring_129 rfl (by decide) (by decide) (ret_v hF hm)
  have hL47 : ∀ (n47 : Nat) (x2 x3 x5 : Int) (S1 M1 : s_M), rI x2 → rL x3 → rL x5 → mq sh M0 M1 r S1 → A_substring_l47 N n47 x2 x3 x5 S1 = some (v0, S0) → Go g 0 0 sh M1 sz 47 [(0, vr r), (2, vi x2), (3, vl x3), (5, vl x5)] [] := by
    intro n47
    induction n47 with
    | zero => intro x2 x3 x5 S1 M1 hx2 hx3 hx5 hm hF; cases hF
    | succ n47 ih47 =>
      have hJ120 : ∀ (x2 x3 x5 : Int) (S1 M1 : s_M), rI x2 → rL x3 → rL x5 → mq sh M0 M1 r S1 → A_substring_j120 N (A_substring_l47 N n47) x2 x3 x5 S1 = some (v0, S0) → Go g 0 0 sh M1 sz 120 [(0, vr r), (2, vi x2), (3, vl x3), (5, vl x5)] [] := by
        intro x2 x3 x5 S1 M1 hx2 hx3 hx5 hm hF
        rw [A_substring_j120_e] at hF
        refine go_lload X d_Model_substring_120 rfl ?_
        refine go_lconst (x := 1) X d_Model_substring_122 (by decide) ?_
        refine go_ladd X d_Model_substring_123 ?_
        obtain ⟨hc1, hF2⟩ := chk_t hF
        refine go_lstore (lv' := [(5, vl (x5 + 1)), (0, vr r), (2, vi x2), (3, vl x3)]) X d_Model_substring_124 (by decide) rfl ?_
        refine go_goto (tgt := 47) X d_Model_substring_126 rfl ?_
        refine go_lv (lv' := [(0, vr r), (2, vi x2), (3, vl x3), (5, vl (x5 + 1))]) X [1, 2, 3, 0] rfl ?_
        exact ih47 x2 x3 (x5 + 1) S1 M1 hx2 hx3 hc1 hm hF2
      have hJ81 : ∀ (x2 x3 x5 : Int) (S1 M1 : s_M), rI x2 → rL x3 → rL x5 → mq sh M0 M1 r S1 → A_substring_j81 N (A_substring_l47 N n47) x2 x3 x5 S1 = some (v0, S0) → Go g 0 0 sh M1 sz 81 [(0, vr r), (2, vi x2), (3, vl x3), (5, vl x5)] [] := by
        intro x2 x3 x5 S1 M1 hx2 hx3 hx5 hm hF
        rw [A_substring_j81_e] at hF
        refine go_lload X d_Model_substring_81 rfl ?_
        refine go_lload_n X d_Model_substring_83 rfl rfl ?_
        refine go_iload_n X d_Model_substring_84 rfl rfl ?_
        refine go_i2l X d_Model_substring_85 hx2 ?_
        refine go_ladd X d_Model_substring_86 ?_
        obtain ⟨hc3, hF4⟩ := chk_t hF
        refine go_lcmp X hx5 hc3 d_Model_substring_87 ?_
        refine go_if_ge (tgt := 120) X d_Model_substring_88 rfl (rI_cmp _ _) (fun hq5 => ?_) (fun hq5 => ?_)
        · skip
          have hF6 := if_f hF4 (Int.not_lt.mpr (sc_ge hq5))
          refine go_lv (lv' := [(0, vr r), (2, vi x2), (3, vl x3), (5, vl x5)]) X [0, 1, 2, 3] rfl ?_
          exact hJ120 x2 x3 x5 S1 M1 hx2 hx3 hx5 hm hF6
        · skip
          have hF7 := if_t hF4 (sc_lt hq5)
          refine go_lload X d_Model_substring_91 rfl ?_
          refine go_aload_n X d_Model_substring_93 rfl rfl ?_
          refine go_get (v := vr (r + 3)) X f_Model_16 hm.1.1 rfl d_Model_substring_94 (s_varr (hm.1.2.2 2 _ rfl).2 (by omega)) ?_
          refine go_bipush (v := 82) X d_Model_substring_97 (by decide) ?_
          refine go_iald X (hm.1.2.2 2 _ rfl).1 (by decide) (by decide) d_Model_substring_99 ?_
          refine go_top (v' := vi (S1 3 82)) X (congrArg (fun q => vi q) ((hm.a (by decide) 82).trans (rfl))) ?_
          refine go_i2l X d_Model_substring_100 (hm.gA (by decide) 82) ?_
          refine go_lcmp X hx5 (rI_L (hm.gA (by decide) 82)) d_Model_substring_101 ?_
          refine go_if_ge (tgt := 120) X d_Model_substring_102 rfl (rI_cmp _ _) (fun hq8 => ?_) (fun hq8 => ?_)
          · skip
            have hF9 := if_f hF7 (Int.not_lt.mpr (sc_ge hq8))
            refine go_lv (lv' := [(0, vr r), (2, vi x2), (3, vl x3), (5, vl x5)]) X [0, 1, 2, 3] rfl ?_
            exact hJ120 x2 x3 x5 S1 M1 hx2 hx3 hx5 hm hF9
          · skip
            have hF10 := if_t hF7 (sc_lt hq8)
            refine go_aload_n X d_Model_substring_105 rfl rfl ?_
            refine go_bipush (v := 84) X d_Model_substring_106 (by decide) ?_
            refine go_aload_n X d_Model_substring_108 rfl rfl ?_
            refine go_bipush (v := 82) X d_Model_substring_109 (by decide) ?_
            refine go_lload X d_Model_substring_111 rfl ?_
            refine go_l2i X d_Model_substring_113 ?_
            refine go_top (v' := vi (wi32 x5)) X (wi32_vi _) ?_
            obtain ⟨v11, S12, hG13, hF14⟩ := bnd_t hF10
            refine go_cV (st2 := []) (r := [vi 84, vr r]) X k_Model_99 (a_at l D hm (by decide) (wi32_rng _) hG13) hm.1.1 rfl rfl (by decide) (Nat.le_of_ble_eq_true rfl) d_Model_substring_114 (by decide) (by decide) (fun v' sh' M15 sz' hpp => ?_)
            obtain ⟨e1, e2, e3, hv17, md16⟩ := hpp
            subst e1
            rw [e2, e3]
            clear e2 e3
            show Go g 0 0 sh M15 sz 117 [(0, vr r), (2, vi x2), (3, vl x3), (5, vl x5)] [vi v11, vi 84, vr r]
            obtain ⟨v18, S19, hG20, hF21⟩ := bnd_t hF14
            refine go_cV (st2 := []) (r := []) X k_Model_124 (a_add l D md16 (by decide) hv17 hG20) md16.1.1 rfl rfl (by decide) (Nat.le_of_ble_eq_true rfl) d_Model_substring_117 (by decide) (by decide) (fun v' sh' M22 sz' hpp => ?_)
            obtain ⟨e1, e2, e3, md23⟩ := hpp
            subst e1
            rw [e2, e3]
            clear e2 e3
            show Go g 0 0 sh M22 sz 120 [(0, vr r), (2, vi x2), (3, vl x3), (5, vl x5)] []
            refine go_lv (lv' := [(0, vr r), (2, vi x2), (3, vl x3), (5, vl x5)]) X [0, 1, 2, 3] rfl ?_
            exact hJ120 x2 x3 x5 S19 M22 hx2 hx3 hx5 md23 hF21
      intro x2 x3 x5 S1 M1 hx2 hx3 hx5 hm hF
      rw [A_substring_l47_e] at hF
      refine go_lload X d_Model_substring_47 rfl ?_
      refine go_lload_n X d_Model_substring_49 rfl rfl ?_
      refine go_iload_n X d_Model_substring_50 rfl rfl ?_
      refine go_i2l X d_Model_substring_51 hx2 ?_
      refine go_ladd X d_Model_substring_52 ?_
      obtain ⟨hc25, hF26⟩ := chk_t hF
      refine go_lcmp X hx5 hc25 d_Model_substring_53 ?_
      refine go_if_ge (tgt := 129) X d_Model_substring_54 rfl (rI_cmp _ _) (fun hq27 => ?_) (fun hq27 => ?_)
      · skip
        have hF28 := if_f hF26 (Int.not_lt.mpr (sc_ge hq27))
        refine go_lv (lv' := [(0, vr r)]) X [0] rfl ?_
        exact hJ129  S1 M1  hm hF28
      · skip
        have hF29 := if_t hF26 (sc_lt hq27)
        refine go_lload X d_Model_substring_57 rfl ?_
        refine go_aload_n X d_Model_substring_59 rfl rfl ?_
        refine go_get (v := vr (r + 3)) X f_Model_16 hm.1.1 rfl d_Model_substring_60 (s_varr (hm.1.2.2 2 _ rfl).2 (by omega)) ?_
        refine go_bipush (v := 82) X d_Model_substring_63 (by decide) ?_
        refine go_iald X (hm.1.2.2 2 _ rfl).1 (by decide) (by decide) d_Model_substring_65 ?_
        refine go_top (v' := vi (S1 3 82)) X (congrArg (fun q => vi q) ((hm.a (by decide) 82).trans (rfl))) ?_
        refine go_i2l X d_Model_substring_66 (hm.gA (by decide) 82) ?_
        refine go_lcmp X hx5 (rI_L (hm.gA (by decide) 82)) d_Model_substring_67 ?_
        refine go_if_ge (tgt := 129) X d_Model_substring_68 rfl (rI_cmp _ _) (fun hq30 => ?_) (fun hq30 => ?_)
        · skip
          have hF31 := if_f hF29 (Int.not_lt.mpr (sc_ge hq30))
          refine go_lv (lv' := [(0, vr r)]) X [0] rfl ?_
          exact hJ129  S1 M1  hm hF31
        · skip
          have hF32 := if_t hF29 (sc_lt hq30)
          refine go_lload X d_Model_substring_71 rfl ?_
          refine go_lconst (x := 0) X d_Model_substring_73 (by decide) ?_
          refine go_lcmp X hx5 (by decide) d_Model_substring_74 ?_
          refine go_if_ge (tgt := 81) X d_Model_substring_75 rfl (rI_cmp _ _) (fun hq33 => ?_) (fun hq33 => ?_)
          · skip
            have hF34 := if_f hF32 (Int.not_lt.mpr (sc_ge hq33))
            refine go_lv (lv' := [(0, vr r), (2, vi x2), (3, vl x3), (5, vl x5)]) X [0, 1, 2, 3] rfl ?_
            exact hJ81 x2 x3 x5 S1 M1 hx2 hx3 hx5 hm hF34
          · skip
            have hF35 := if_t hF32 (sc_lt hq33)
            refine go_lconst (x := 0) X d_Model_substring_78 (by decide) ?_
            refine go_lstore (lv' := [(5, vl 0), (0, vr r), (2, vi x2), (3, vl x3)]) X d_Model_substring_79 (by decide) rfl ?_
            refine go_lv (lv' := [(0, vr r), (2, vi x2), (3, vl x3), (5, vl 0)]) X [1, 2, 3, 0] rfl ?_
            exact hJ81 x2 x3 0 S1 M1 hx2 hx3 (by decide) hm hF35
  have hJ43 : ∀ (x2 y0 : Int) (S1 M1 : s_M), rI x2 → rL y0 → mq sh M0 M1 r S1 → A_substring_j43 N x2 y0 S1 = some (v0, S0) → Go g 0 0 sh M1 sz 43 [(0, vr r), (2, vi x2)] [vl y0] := by
    intro x2 y0 S1 M1 hx2 hy0 hm hF
    rw [A_substring_j43_e] at hF
    refine go_lstore_n (lv' := [(3, vl y0), (0, vr r), (2, vi x2)]) X d_Model_substring_43 rfl (by decide) rfl ?_
    refine go_lload_n X d_Model_substring_44 rfl rfl ?_
    refine go_lstore (lv' := [(5, vl y0), (3, vl y0), (0, vr r), (2, vi x2)]) X d_Model_substring_45 (by decide) rfl ?_
    refine go_lv (lv' := [(0, vr r), (2, vi x2), (3, vl y0), (5, vl y0)]) X [2, 3, 1, 0] rfl ?_
    exact hL47 N x2 y0 y0 S1 M1 hx2 hy0 hy0 hm hF
  have hJ15 : ∀ (S1 M1 : s_M), mq sh M0 M1 r S1 → A_substring_j15 N S1 = some (v0, S0) → Go g 0 0 sh M1 sz 15 [(0, vr r)] [] := by
    intro S1 M1 hm hF
    rw [A_substring_j15_e] at hF
    exact go_vret X d_Model_substring_15 rfl (by decide) (by decide) (ret_v hF hm)
  rw [A_substring_e] at hF
  refine go_aload_n X d_Model_substring_0 rfl rfl ?_
  refine go_bipush (v := 84) X d_Model_substring_1 (by decide) ?_
  obtain ⟨v36, S37, hG38, hF39⟩ := bnd_t hF
  refine go_cV (st2 := []) (r := []) X k_Model_120 (a_clearText l D h (by decide) hG38) h.1.1 rfl rfl (by decide) (Nat.le_of_ble_eq_true rfl) d_Model_substring_3 (by decide) (by decide) (fun v' sh' M40 sz' hpp => ?_)
  obtain ⟨e1, e2, e3, md41⟩ := hpp
  subst e1
  rw [e2, e3]
  clear e2 e3
  show Go g 0 0 sh M40 sz 6 [(0, vr r), (1, vi x1), (2, vi x2)] []
  refine go_iload_n X d_Model_substring_6 rfl rfl ?_
  refine go_if_eq (tgt := 15) X d_Model_substring_7 rfl hx1 (fun hq43 => ?_) (fun hq43 => ?_)
  · skip
    have hF44 := if_t hF39 hq43
    refine go_lv (lv' := [(0, vr r)]) X [0] rfl ?_
    exact hJ15  S37 M40  md41 hF44
  · skip
    have hF45 := if_f hF39 hq43
    refine go_iload_n X d_Model_substring_10 rfl rfl ?_
    refine go_iconst (v := 1) X d_Model_substring_11 ?_
    refine go_icmp_ge (tgt := 16) X d_Model_substring_12 rfl hx2 (by decide) (fun hq46 => ?_) (fun hq46 => ?_)
    · skip
      have hF47 := if_f hF45 (Int.not_lt.mpr hq46)
      refine go_iload_n X d_Model_substring_16 rfl rfl ?_
      refine go_if_le (tgt := 27) X d_Model_substring_17 rfl hx1 (fun hq48 => ?_) (fun hq48 => ?_)
      · skip
        have hF49 := if_f hF47 (Int.not_lt.mpr hq48)
        refine go_aload_n X d_Model_substring_27 rfl rfl ?_
        refine go_get (v := vr (r + 3)) X f_Model_16 md41.1.1 rfl d_Model_substring_28 (s_varr (md41.1.2.2 2 _ rfl).2 (by omega)) ?_
        refine go_bipush (v := 82) X d_Model_substring_31 (by decide) ?_
        refine go_iald X (md41.1.2.2 2 _ rfl).1 (by decide) (by decide) d_Model_substring_33 ?_
        refine go_top (v' := vi (S37 3 82)) X (congrArg (fun q => vi q) ((md41.a (by decide) 82).trans (rfl))) ?_
        refine go_i2l X d_Model_substring_34 (md41.gA (by decide) 82) ?_
        refine go_iload_n X d_Model_substring_35 rfl rfl ?_
        refine go_i2l X d_Model_substring_36 hx1 ?_
        refine go_ladd X d_Model_substring_37 ?_
        obtain ⟨hc50, hF51⟩ := chk_t hF49
        refine go_iload_n X d_Model_substring_38 rfl rfl ?_
        refine go_i2l X d_Model_substring_39 hx2 ?_
        refine go_lsub X d_Model_substring_40 ?_
        obtain ⟨hc52, hF53⟩ := chk_t hF51
        refine go_lconst (x := 1) X d_Model_substring_41 (by decide) ?_
        refine go_ladd X d_Model_substring_42 ?_
        obtain ⟨hc54, hF55⟩ := chk_t hF53
        refine go_lv (lv' := [(0, vr r), (2, vi x2)]) X [0, 2] rfl ?_
        exact hJ43 x2 ((((S37 3 82) + x1) - x2) + 1) S37 M40 hx2 hc54 md41 hF55
      · skip
        have hF56 := if_t hF47 hq48
        refine go_iload_n X d_Model_substring_20 rfl rfl ?_
        refine go_i2l X d_Model_substring_21 hx1 ?_
        refine go_lconst (x := 1) X d_Model_substring_22 (by decide) ?_
        refine go_lsub X d_Model_substring_23 ?_
        obtain ⟨hc57, hF58⟩ := chk_t hF56
        refine go_goto (tgt := 43) X d_Model_substring_24 rfl ?_
        refine go_lv (lv' := [(0, vr r), (2, vi x2)]) X [0, 2] rfl ?_
        exact hJ43 x2 (x1 - 1) S37 M40 hx2 hc57 md41 hF58
    · skip
      have hF59 := if_t hF45 hq46
      refine go_lv (lv' := [(0, vr r)]) X [0] rfl ?_
      exact hJ15  S37 M40  md41 hF59
