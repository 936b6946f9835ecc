set_option maxHeartbeats 4000000 in
set_option maxRecDepth 100000 in
theorem c_Stack_giveTruth (l : Launch) (D : va_G) {sh : s_S} {M : s_M} {sz p w n : Int} {f : Int → sva} {W : Int → Int} (h : stv sh M p w n f) (hW : M w = W) {q0 : Bool} : Sp l D y_Stack_giveTruth prog_10_method_10_code 2 none 5 0 0 [vr p, vi (s_b q0)] sh M sz (fun v' sh' M' sz' => v' = none ∧ sh' = sh ∧ sz' = sz ∧ stv sh M' p w (gn n) (gf n f (0, s_b q0, [])) ∧ M' w = gW n W ∧ fr (fun z => (p ≤ z ∧ z ≤ p + 37) ∨ z = w) M M') := by
  have hh := h
  obtain ⟨h1, h2, h3, h4, h5, h6, h7, h8, h9, h10, h11⟩ := h
  refine Sp.ofGo (own := "CiteForge$Stack") (nm := "giveTruth") (by decide) rfl rfl (Nat.le_of_ble_eq_true rfl) (lv := [(0, vr p), (1, vi (s_b q0))]) rfl ?_
  intro g X
  refine go_aload_n X d_Stack_giveTruth_0 rfl rfl ?_
  refine go_iload_n X d_Stack_giveTruth_1 rfl rfl ?_
  refine go_ifb_eq (tgt := 9) X d_Stack_giveTruth_2 rfl (fun hq1 => ?_) (fun hq1 => ?_)
  · skip
    refine go_iconst (v := 0) X d_Stack_giveTruth_9 ?_
    have hgn := c_Stack_giveNumber l D (sz := sz) hh hW (q := 0) (by omega)
    have hbv : s_b q0 = 0 := by rw [hq1]; rfl
    refine go_cV (st2 := []) (r := []) X k_Stack_56 hgn h1 rfl rfl (by omega) (Nat.le_of_ble_eq_true rfl) d_Stack_giveTruth_10 (by omega) (by omega) (fun v sh' M9 sz' hp9 => ?_)
    obtain ⟨e1, e2, e3, hs4, rw5, fr6⟩ := hp9
    subst e1
    rw [e2, e3]
    show Go g 0 0 sh M9 sz 13 [(0, vr p), (1, vi (s_b q0))] []
    refine go_vret X d_Stack_giveTruth_13 rfl (by omega) (by omega) ?_
    rw [hbv]
    exact ⟨rfl, rfl, rfl, hs4, rw5, fr6⟩
  · skip
    refine go_iconst (v := 1) X d_Stack_giveTruth_5 ?_
    refine go_goto (tgt := 10) X d_Stack_giveTruth_6 rfl ?_
    have hgn := c_Stack_giveNumber l D (sz := sz) hh hW (q := 1) (by omega)
    have hbv : s_b q0 = 1 := by rw [hq1]; rfl
    refine go_cV (st2 := []) (r := []) X k_Stack_56 hgn h1 rfl rfl (by omega) (Nat.le_of_ble_eq_true rfl) d_Stack_giveTruth_10 (by omega) (by omega) (fun v sh' M9 sz' hp9 => ?_)
    obtain ⟨e1, e2, e3, hs4, rw5, fr6⟩ := hp9
    subst e1
    rw [e2, e3]
    show Go g 0 0 sh M9 sz 13 [(0, vr p), (1, vi (s_b q0))] []
    refine go_vret X d_Stack_giveTruth_13 rfl (by omega) (by omega) ?_
    rw [hbv]
    exact ⟨rfl, rfl, rfl, hs4, rw5, fr6⟩
