set_option maxHeartbeats 4000000 in
set_option maxRecDepth 100000 in
theorem c_Shelf_init (l : Launch) (D : va_G) {sh : s_S} {M : s_M} {sz a : Int} (hs : sh a = some (.inl (2, ts_Shelf))) (hM : M a = (fun j => if j = 0 ∨ j = 1 then -1 else 0)) (h0 : 0 ≤ a) (hz : sz = a + 1) {w : Int} (hw : sh w = some (.inr (.int, 10))) (hw0 : 0 ≤ w ∧ w < a) : Sp l D y_Shelf_init prog_9_method_1_code 3 none 4 154 4086 [vr a, vr w] sh M sz (fun v sh' M' sz' => v = none ∧ sz' = a + 155 ∧ up a sh M sh' M' ∧ shv sh' M' a w 0 (fun _ => sen0)) := by
  subst hz
  have hup := up.rf (a := a) (sh := sh) (M := M)
  have d0 : M a 0 < 0 := by rw [hM]; decide
  have d1 : M a 1 < 0 := by rw [hM]; decide
  have d2 : M a 2 = 0 := by rw [hM]; decide
  refine Sp.ofGo (own := "CiteForge$Shelf") (nm := "<init>") (by decide) rfl rfl (Nat.le_of_ble_eq_true rfl) (lv := [(0, vr a), (1, vr w)]) rfl ?_
  intro g X
  refine go_aload_n X d_Shelf_init_0 rfl rfl ?_
  refine go_objInit X w_oi_Shelf w_oi2 w_oi3 (by omega) (Nat.le_of_ble_eq_true rfl) d_Shelf_init_1 ?_
  refine go_aload_n X d_Shelf_init_4 rfl rfl ?_
  refine go_aload_n X d_Shelf_init_5 rfl rfl ?_
  refine go_putF (x := w) (v := vr w) X f_Shelf_9 rfl hs rfl d_Shelf_init_6 (s_varr rfl (by omega)) rfl rfl f_Shelf_9w ?_
  generalize hM2 : m_s M a 1 w = M1
  have e3 : M1 a 0 < 0 := by rw [← hM2, m_s_n (fun q => absurd q.2 (by decide))]; exact d0
  have e4 : M1 a 2 = 0 := by rw [← hM2]; exact (m_s_n (fun q => absurd q.2 (by decide))).trans d2
  have e5 : M1 a 1 = w := by rw [← hM2, m_s_s]
  have up6 : up a sh M sh M1 := by rw [← hM2]; exact hup.set (by omega)
  clear hM2
  refine go_aload_n X d_Shelf_init_9 rfl rfl ?_
  refine go_bipush (v := 9) X d_Shelf_init_10 (by decide) ?_
  refine go_anew (N := 9) X w_cl_Shelf_15 (by decide) (by decide) (by omega) (by omega) d_Shelf_init_12 ?_
  generalize hs8 : s_up sh (a + 1) (.inr (.object "CiteForge$Entry", 9)) = sh7
  generalize hM10 : m_new M1 (a + 1) (fun _ => -1) = M9
  have hu11 : up (a + 1) sh M1 sh7 M9 := by rw [← hs8, ← hM10]; exact up.new
  have e12 : sh7 a = some (.inl (2, ts_Shelf)) := hu11.s (by omega) hs
  have e13 : sh7 w = some (.inr (.int, 10)) := hu11.s (by omega) hw
  have e14 : M9 a 0 < 0 := hu11.n (by omega) e3
  have e15 : M9 a 2 = 0 := hu11.m (by omega) e4
  have e16 : M9 a 1 = w := hu11.m (by omega) e5
  have up17 : up a sh M sh7 M9 := up6.tr hu11 (by omega)
  clear e3 e4 e5
  have e18 : sh7 (a + 1) = some (.inr (.object "CiteForge$Entry", 9)) := by rw [← hs8, s_up_s]
  clear hs8 hM10 hu11
  refine go_kn (k' := 1) (n' := 9) (sz' := a + 2) (by omega) (by omega) (by omega) ?_
  refine go_putF (x := (a + 1)) (v := vr (a + 1)) X f_Shelf_17 rfl e12 rfl d_Shelf_init_15 (s_varr rfl (by omega)) rfl rfl f_Shelf_17w ?_
  generalize hM20 : m_s M9 a 0 (a + 1) = M19
  have e21 : M19 a 2 = 0 := by rw [← hM20]; exact (m_s_n (fun q => absurd q.2 (by decide))).trans e15
  have e22 : M19 a 1 = w := by rw [← hM20]; exact (m_s_n (fun q => absurd q.2 (by decide))).trans e16
  have e23 : M19 a 0 = a + 1 := by rw [← hM20, m_s_s]
  have up24 : up a sh M sh7 M19 := by rw [← hM20]; exact up17.set (by omega)
  clear e14 e15 e16 up17 hM20
  refine go_iconst (v := 0) X d_Shelf_init_18 ?_
  refine go_istore_n (lv' := [(2, vi 0), (0, vr a), (1, vr w)]) X d_Shelf_init_19 rfl (by decide) rfl ?_
  have fm25 : fam 17 (lE (fun _ => sen0)) sh7 M19 (a + 1) 0 := fun i h0 h1 => absurd h1 (by omega)
  have lp : ∀ (fuel : Nat) (i_lp : Int) (shx_lp : s_S) (Mx_lp : s_M), 0 ≤ i_lp ∧ i_lp ≤ 9 → (shx_lp a = some (.inl (2, ts_Shelf))) → (shx_lp (a + 1) = some (.inr (.object "CiteForge$Entry", 9))) → (shx_lp w = some (.inr (.int, 10))) → (Mx_lp a 0 = a + 1) → (Mx_lp a 1 = w) → (Mx_lp a 2 = 0) → (fam 17 (lE (fun _ => sen0)) shx_lp Mx_lp (a + 1) i_lp) → (up a sh M shx_lp Mx_lp) → (9 - i_lp).toNat < fuel → Go g (1 + 17 * i_lp.toNat) (9 + 453 * i_lp.toNat) shx_lp Mx_lp (a + 2 + 17 * i_lp) 20 [(0, vr a), (2, vi i_lp)] [] := by
    intro fuel
    induction fuel with
    | zero => intro i_lp shx_lp Mx_lp hi_lp g0_lp g1_lp g2_lp g3_lp g4_lp g5_lp g6_lp g7_lp hm_lp; exact absurd hm_lp (Nat.not_lt_zero _)
    | succ fuel ih_lp =>
      intro i_lp shx_lp Mx_lp hi_lp g0_lp g1_lp g2_lp g3_lp g4_lp g5_lp g6_lp g7_lp hm_lp
      refine go_iload_n X d_Shelf_init_20 rfl rfl ?_
      refine go_bipush (v := 8) X d_Shelf_init_21 (by decide) ?_
      refine go_icmp_gt (tgt := 45) X d_Shelf_init_23 rfl (by omega) (by omega) (fun hq26 => ?_) (fun hq26 => ?_)
      · skip
        refine go_vret X d_Shelf_init_45 rfl (by omega) (by omega) ?_
        have hi9 : i_lp = 9 := by omega
        subst hi9
        exact ⟨rfl, by omega, g7_lp, ⟨g0_lp, g1_lp, g2_lp, g3_lp, g4_lp, g5_lp, by decide, h0, hw0.1, hw0.2, g6_lp⟩⟩
      · skip
        refine go_aload_n X d_Shelf_init_26 rfl rfl ?_
        refine go_get (v := vr (a + 1)) X f_Shelf_17 g0_lp rfl d_Shelf_init_27 (s_varr g3_lp (by omega)) ?_
        refine go_iload_n X d_Shelf_init_30 rfl rfl ?_
        refine go_new (ts := ts_Entry) (f := (fun j => if j = 4 ∨ j = 5 ∨ j = 6 then -1 else 0)) X cls1_ok w_cl_Shelf_15 w_in_1 w_ini_1 (by decide) (by decide) (by omega) (by omega) d_Shelf_init_31 ?_
        generalize hs28 : s_up shx_lp (a + 2 + 17 * i_lp) (.inl (1, ts_Entry)) = sh27
        generalize hM30 : m_new Mx_lp (a + 2 + 17 * i_lp) (fun j => if j = 4 ∨ j = 5 ∨ j = 6 then -1 else 0) = M29
        have hu31 : up (a + 2 + 17 * i_lp) shx_lp Mx_lp sh27 M29 := by rw [← hs28, ← hM30]; exact up.new
        have e32 : sh27 a = some (.inl (2, ts_Shelf)) := hu31.s (by omega) g0_lp
        have e33 : sh27 w = some (.inr (.int, 10)) := hu31.s (by omega) g2_lp
        have e34 : sh27 (a + 1) = some (.inr (.object "CiteForge$Entry", 9)) := hu31.s (by omega) g1_lp
        have e35 : M29 a 2 = 0 := hu31.m (by omega) g5_lp
        have e36 : M29 a 1 = w := hu31.m (by omega) g4_lp
        have e37 : M29 a 0 = a + 1 := hu31.m (by omega) g3_lp
        have fm38 : fam 17 (lE (fun _ => sen0)) sh27 M29 (a + 1) i_lp := g6_lp.mv (by decide) lE_loc (hu31.as (by omega))
        have up39 : up a sh M sh27 M29 := g7_lp.tr hu31 (by omega)
        have e40 : sh27 (a + 2 + 17 * i_lp) = some (.inl (1, ts_Entry)) := by rw [← hs28, s_up_s]
        have rw41 : M29 (a + 2 + 17 * i_lp) = (fun j => if j = 4 ∨ j = 5 ∨ j = 6 then -1 else 0) := by rw [← hM30, m_new_s]
        clear hs28 hM30 hu31
        refine go_kn (k' := 1 + 17 * i_lp.toNat + 1) (n' := 9 + 453 * i_lp.toNat + 7) (sz' := a + 2 + 17 * i_lp + 1) (by omega) (by omega) (by omega) ?_
        refine go_dup X d_Shelf_init_34 rfl ?_
        refine go_cI (st2 := []) (r := [vr (a + 2 + 17 * i_lp), vi i_lp, vr (a + 1)]) X k_Shelf_21 (c_Entry_init l D e40 rw41 (by omega) (by omega)) rfl rfl (by omega) (Nat.le_of_ble_eq_true rfl) d_Shelf_init_35 (by omega) (by omega) (fun v sh42 M43 sz' hp => ?_)
        obtain ⟨e44, e45, hu46, pd47⟩ := hp
        subst e44
        refine go_kn (k' := 1 + 17 * i_lp.toNat + 17) (n' := 9 + 453 * i_lp.toNat + 453) (sz' := a + 2 + 17 * i_lp + 17) (by omega) (by omega) (by omega) ?_
        show Go g (1 + 17 * i_lp.toNat + 17) (9 + 453 * i_lp.toNat + 453) sh42 M43 (a + 2 + 17 * i_lp + 17) 38 [(0, vr a), (2, vi i_lp)] [vr (a + 2 + 17 * i_lp), vi i_lp, vr (a + 1)]
        have e48 : sh42 a = some (.inl (2, ts_Shelf)) := hu46.s (by omega) e32
        have e49 : sh42 w = some (.inr (.int, 10)) := hu46.s (by omega) e33
        have e50 : sh42 (a + 1) = some (.inr (.object "CiteForge$Entry", 9)) := hu46.s (by omega) e34
        have e51 : M43 a 2 = 0 := hu46.m (by omega) e35
        have e52 : M43 a 1 = w := hu46.m (by omega) e36
        have e53 : M43 a 0 = a + 1 := hu46.m (by omega) e37
        have fm54 : fam 17 (lE (fun _ => sen0)) sh42 M43 (a + 1) i_lp := fm38.mv (by decide) lE_loc (hu46.as (by omega))
        have up55 : up a sh M sh42 M43 := up39.tr hu46 (by omega)
        clear e32 e33 e34 e35 e36 e37 e40 fm38 rw41
        have e56 : sh42 (a + 2 + 17 * i_lp) = some (.inl (1, ts_Entry)) := pd47.1
        clear hu46 e45
        refine go_aast X e50 (by omega) (by omega) (cls1) e56 d_Shelf_init_38 ?_
        generalize hM58 : m_s M43 (a + 1) i_lp (a + 2 + 17 * i_lp) = M57
        have e59 : M57 a 2 = 0 := by rw [← hM58]; exact (m_s_n (fun q => absurd q.1 (of_ne1 (by decide)))).trans e51
        have e60 : M57 a 1 = w := by rw [← hM58]; exact (m_s_n (fun q => absurd q.1 (of_ne1 (by decide)))).trans e52
        have e61 : M57 a 0 = a + 1 := by rw [← hM58]; exact (m_s_n (fun q => absurd q.1 (of_ne1 (by decide)))).trans e53
        have pd62 : enx sh42 M57 (a + 2 + 17 * i_lp) sen0 := by rw [← hM58]; exact pd47.mv (as_set (by omega))
        have fm63 : fam 17 (lE (fun _ => sen0)) sh42 M57 (a + 1) (i_lp + 1) := by
          rw [← hM58, show a + 2 + 17 * i_lp = a + 1 + 1 + 17 * i_lp by omega]
          exact fm54.push (by decide) lE_loc (by omega) (by rw [show a + 1 + 1 + 17 * i_lp = a + 2 + 17 * i_lp by omega]; exact pd47)
        have up64 : up a sh M sh42 M57 := by rw [← hM58]; exact up55.set (by omega)
        clear e51 e52 e53 fm54 pd47 up55 hM58
        refine go_iinc (v := 1) (x := i_lp) (lv' := [(2, vi (i_lp + 1)), (0, vr a)]) X d_Shelf_init_39 rfl (by decide) rfl ?_
        refine go_goto (tgt := 20) X d_Shelf_init_42 rfl ?_
        refine go_kn (k' := 1 + 17 * (i_lp + 1).toNat) (n' := 9 + 453 * (i_lp + 1).toNat) (sz' := a + 2 + 17 * (i_lp + 1)) (by omega) (by omega) (by omega) ?_
        refine go_lv (lv' := [(0, vr a), (2, vi (i_lp + 1))]) X [1, 0] rfl ?_
        exact ih_lp (i_lp + 1) sh42 M57 (by omega) e48 e50 e49 e61 e60 e59 fm63 up64 (by omega)
  refine go_kn (k' := 1 + 17 * (0 : Int).toNat) (n' := 9 + 453 * (0 : Int).toNat) (sz' := a + 2 + 17 * 0) (by omega) (by omega) (by omega) ?_
  refine go_lv (lv' := [(0, vr a), (2, vi 0)]) X [1, 0] rfl ?_
  exact lp _ 0 sh7 M19 (by omega) e12 e18 e13 e23 e22 e21 fm25 up24 (Nat.lt_succ_self _)
set_option maxHeartbeats 4000000 in
set_option maxRecDepth 100000 in
theorem c_Stack_init (l : Launch) (D : va_G) {sh : s_S} {M : s_M} {sz a : Int} (hs : sh a = some (.inl (6, ts_Stack))) (hM : M a = (fun j => if j = 0 ∨ j = 1 then -1 else 0)) (h0 : 0 ≤ a) (hz : sz = a + 1) {w : Int} (hw : sh w = some (.inr (.int, 10))) (hw0 : 0 ≤ w ∧ w < a) : Sp l D y_Stack_init prog_10_method_1_code 3 none 4 37 792 [vr a, vr w] sh M sz (fun v sh' M' sz' => v = none ∧ sz' = a + 38 ∧ up a sh M sh' M' ∧ stv sh' M' a w 0 (fun _ => (0, 0, []))) := by
  subst hz
  have hup := up.rf (a := a) (sh := sh) (M := M)
  have d0 : M a 0 < 0 := by rw [hM]; decide
  have d1 : M a 1 < 0 := by rw [hM]; decide
  have d2 : M a 2 = 0 := by rw [hM]; decide
  refine Sp.ofGo (own := "CiteForge$Stack") (nm := "<init>") (by decide) rfl rfl (Nat.le_of_ble_eq_true rfl) (lv := [(0, vr a), (1, vr w)]) rfl ?_
  intro g X
  refine go_aload_n X d_Stack_init_0 rfl rfl ?_
  refine go_objInit X w_oi_Stack w_oi2 w_oi3 (by omega) (Nat.le_of_ble_eq_true rfl) d_Stack_init_1 ?_
  refine go_aload_n X d_Stack_init_4 rfl rfl ?_
  refine go_aload_n X d_Stack_init_5 rfl rfl ?_
  refine go_putF (x := w) (v := vr w) X f_Stack_9 rfl hs rfl d_Stack_init_6 (s_varr rfl (by omega)) rfl rfl f_Stack_9w ?_
  generalize hM2 : m_s M a 1 w = M1
  have e3 : M1 a 0 < 0 := by rw [← hM2, m_s_n (fun q => absurd q.2 (by decide))]; exact d0
  have e4 : M1 a 2 = 0 := by rw [← hM2]; exact (m_s_n (fun q => absurd q.2 (by decide))).trans d2
  have e5 : M1 a 1 = w := by rw [← hM2, m_s_s]
  have up6 : up a sh M sh M1 := by rw [← hM2]; exact hup.set (by omega)
  clear hM2
  refine go_aload_n X d_Stack_init_9 rfl rfl ?_
  refine go_bipush (v := 12) X d_Stack_init_10 (by decide) ?_
  refine go_anew (N := 12) X w_cl_Stack_15 (by decide) (by decide) (by omega) (by omega) d_Stack_init_12 ?_
  generalize hs8 : s_up sh (a + 1) (.inr (.object "CiteForge$Value", 12)) = sh7
  generalize hM10 : m_new M1 (a + 1) (fun _ => -1) = M9
  have hu11 : up (a + 1) sh M1 sh7 M9 := by rw [← hs8, ← hM10]; exact up.new
  have e12 : sh7 a = some (.inl (6, ts_Stack)) := hu11.s (by omega) hs
  have e13 : sh7 w = some (.inr (.int, 10)) := hu11.s (by omega) hw
  have e14 : M9 a 0 < 0 := hu11.n (by omega) e3
  have e15 : M9 a 2 = 0 := hu11.m (by omega) e4
  have e16 : M9 a 1 = w := hu11.m (by omega) e5
  have up17 : up a sh M sh7 M9 := up6.tr hu11 (by omega)
  clear e3 e4 e5
  have e18 : sh7 (a + 1) = some (.inr (.object "CiteForge$Value", 12)) := by rw [← hs8, s_up_s]
  clear hs8 hM10 hu11
  refine go_kn (k' := 1) (n' := 12) (sz' := a + 2) (by omega) (by omega) (by omega) ?_
  refine go_putF (x := (a + 1)) (v := vr (a + 1)) X f_Stack_17 rfl e12 rfl d_Stack_init_15 (s_varr rfl (by omega)) rfl rfl f_Stack_17w ?_
  generalize hM20 : m_s M9 a 0 (a + 1) = M19
  have e21 : M19 a 2 = 0 := by rw [← hM20]; exact (m_s_n (fun q => absurd q.2 (by decide))).trans e15
  have e22 : M19 a 1 = w := by rw [← hM20]; exact (m_s_n (fun q => absurd q.2 (by decide))).trans e16
  have e23 : M19 a 0 = a + 1 := by rw [← hM20, m_s_s]
  have up24 : up a sh M sh7 M19 := by rw [← hM20]; exact up17.set (by omega)
  clear e14 e15 e16 up17 hM20
  refine go_iconst (v := 0) X d_Stack_init_18 ?_
  refine go_istore_n (lv' := [(2, vi 0), (0, vr a), (1, vr w)]) X d_Stack_init_19 rfl (by decide) rfl ?_
  have fm25 : fam 3 (lV (fun _ => (0, 0, []))) sh7 M19 (a + 1) 0 := fun i h0 h1 => absurd h1 (by omega)
  have lp : ∀ (fuel : Nat) (i_lp : Int) (shx_lp : s_S) (Mx_lp : s_M), 0 ≤ i_lp ∧ i_lp ≤ 12 → (shx_lp a = some (.inl (6, ts_Stack))) → (shx_lp (a + 1) = some (.inr (.object "CiteForge$Value", 12))) → (shx_lp w = some (.inr (.int, 10))) → (Mx_lp a 0 = a + 1) → (Mx_lp a 1 = w) → (Mx_lp a 2 = 0) → (fam 3 (lV (fun _ => (0, 0, []))) shx_lp Mx_lp (a + 1) i_lp) → (up a sh M shx_lp Mx_lp) → (12 - i_lp).toNat < fuel → Go g (1 + 3 * i_lp.toNat) (12 + 65 * i_lp.toNat) shx_lp Mx_lp (a + 2 + 3 * i_lp) 20 [(0, vr a), (2, vi i_lp)] [] := by
    intro fuel
    induction fuel with
    | zero => intro i_lp shx_lp Mx_lp hi_lp g0_lp g1_lp g2_lp g3_lp g4_lp g5_lp g6_lp g7_lp hm_lp; exact absurd hm_lp (Nat.not_lt_zero _)
    | succ fuel ih_lp =>
      intro i_lp shx_lp Mx_lp hi_lp g0_lp g1_lp g2_lp g3_lp g4_lp g5_lp g6_lp g7_lp hm_lp
      refine go_iload_n X d_Stack_init_20 rfl rfl ?_
      refine go_bipush (v := 12) X d_Stack_init_21 (by decide) ?_
      refine go_icmp_ge (tgt := 45) X d_Stack_init_23 rfl (by omega) (by omega) (fun hq26 => ?_) (fun hq26 => ?_)
      · skip
        refine go_vret X d_Stack_init_45 rfl (by omega) (by omega) ?_
        have hi12 : i_lp = 12 := by omega
        subst hi12
        have hsv : svs shx_lp Mx_lp a (fun _ => (0, 0, [])) := fun i h1 h2 => by
          have q := g6_lp i h1 h2
          rw [show a + 1 + 1 + 3 * i = a + 2 + 3 * i by omega] at q
          exact q
        exact ⟨rfl, by omega, g7_lp, ⟨g0_lp, g1_lp, g2_lp, g3_lp, g4_lp, g5_lp, by decide, h0, hw0.1, hw0.2, hsv⟩⟩
      · skip
        refine go_aload_n X d_Stack_init_26 rfl rfl ?_
        refine go_get (v := vr (a + 1)) X f_Stack_17 g0_lp rfl d_Stack_init_27 (s_varr g3_lp (by omega)) ?_
        refine go_iload_n X d_Stack_init_30 rfl rfl ?_
        refine go_new (ts := ts_Value) (f := (fun j => if j = 2 then -1 else 0)) X cls5_ok w_cl_Stack_15 w_in_5 w_ini_5 (by decide) (by decide) (by omega) (by omega) d_Stack_init_31 ?_
        generalize hs28 : s_up shx_lp (a + 2 + 3 * i_lp) (.inl (5, ts_Value)) = sh27
        generalize hM30 : m_new Mx_lp (a + 2 + 3 * i_lp) (fun j => if j = 2 then -1 else 0) = M29
        have hu31 : up (a + 2 + 3 * i_lp) shx_lp Mx_lp sh27 M29 := by rw [← hs28, ← hM30]; exact up.new
        have e32 : sh27 a = some (.inl (6, ts_Stack)) := hu31.s (by omega) g0_lp
        have e33 : sh27 w = some (.inr (.int, 10)) := hu31.s (by omega) g2_lp
        have e34 : sh27 (a + 1) = some (.inr (.object "CiteForge$Value", 12)) := hu31.s (by omega) g1_lp
        have e35 : M29 a 2 = 0 := hu31.m (by omega) g5_lp
        have e36 : M29 a 1 = w := hu31.m (by omega) g4_lp
        have e37 : M29 a 0 = a + 1 := hu31.m (by omega) g3_lp
        have fm38 : fam 3 (lV (fun _ => (0, 0, []))) sh27 M29 (a + 1) i_lp := g6_lp.mv (by decide) lV_loc (hu31.as (by omega))
        have up39 : up a sh M sh27 M29 := g7_lp.tr hu31 (by omega)
        have e40 : sh27 (a + 2 + 3 * i_lp) = some (.inl (5, ts_Value)) := by rw [← hs28, s_up_s]
        have rw41 : M29 (a + 2 + 3 * i_lp) = (fun j => if j = 2 then -1 else 0) := by rw [← hM30, m_new_s]
        clear hs28 hM30 hu31
        refine go_kn (k' := 1 + 3 * i_lp.toNat + 1) (n' := 12 + 65 * i_lp.toNat + 3) (sz' := a + 2 + 3 * i_lp + 1) (by omega) (by omega) (by omega) ?_
        refine go_dup X d_Stack_init_34 rfl ?_
        refine go_cI (st2 := []) (r := [vr (a + 2 + 3 * i_lp), vi i_lp, vr (a + 1)]) X k_Stack_21 (c_Value_init l D e40 rw41 (by omega) (by omega)) rfl rfl (by omega) (Nat.le_of_ble_eq_true rfl) d_Stack_init_35 (by omega) (by omega) (fun v sh42 M43 sz' hp => ?_)
        obtain ⟨e44, e45, hu46, pd47⟩ := hp
        subst e44
        refine go_kn (k' := 1 + 3 * i_lp.toNat + 3) (n' := 12 + 65 * i_lp.toNat + 65) (sz' := a + 2 + 3 * i_lp + 3) (by omega) (by omega) (by omega) ?_
        show Go g (1 + 3 * i_lp.toNat + 3) (12 + 65 * i_lp.toNat + 65) sh42 M43 (a + 2 + 3 * i_lp + 3) 38 [(0, vr a), (2, vi i_lp)] [vr (a + 2 + 3 * i_lp), vi i_lp, vr (a + 1)]
        have e48 : sh42 a = some (.inl (6, ts_Stack)) := hu46.s (by omega) e32
        have e49 : sh42 w = some (.inr (.int, 10)) := hu46.s (by omega) e33
        have e50 : sh42 (a + 1) = some (.inr (.object "CiteForge$Value", 12)) := hu46.s (by omega) e34
        have e51 : M43 a 2 = 0 := hu46.m (by omega) e35
        have e52 : M43 a 1 = w := hu46.m (by omega) e36
        have e53 : M43 a 0 = a + 1 := hu46.m (by omega) e37
        have fm54 : fam 3 (lV (fun _ => (0, 0, []))) sh42 M43 (a + 1) i_lp := fm38.mv (by decide) lV_loc (hu46.as (by omega))
        have up55 : up a sh M sh42 M43 := up39.tr hu46 (by omega)
        clear e32 e33 e34 e35 e36 e37 e40 fm38 rw41
        have e56 : sh42 (a + 2 + 3 * i_lp) = some (.inl (5, ts_Value)) := pd47.1
        clear hu46 e45
        refine go_aast X e50 (by omega) (by omega) (cls5) e56 d_Stack_init_38 ?_
        generalize hM58 : m_s M43 (a + 1) i_lp (a + 2 + 3 * i_lp) = M57
        have e59 : M57 a 2 = 0 := by rw [← hM58]; exact (m_s_n (fun q => absurd q.1 (of_ne1 (by decide)))).trans e51
        have e60 : M57 a 1 = w := by rw [← hM58]; exact (m_s_n (fun q => absurd q.1 (of_ne1 (by decide)))).trans e52
        have e61 : M57 a 0 = a + 1 := by rw [← hM58]; exact (m_s_n (fun q => absurd q.1 (of_ne1 (by decide)))).trans e53
        have pd62 : vv sh42 M57 (a + 2 + 3 * i_lp) 0 0 [] := by rw [← hM58]; exact pd47.mv (as_set (by omega))
        have fm63 : fam 3 (lV (fun _ => (0, 0, []))) sh42 M57 (a + 1) (i_lp + 1) := by
          rw [← hM58, show a + 2 + 3 * i_lp = a + 1 + 1 + 3 * i_lp by omega]
          exact fm54.push (by decide) lV_loc (by omega) (by rw [show a + 1 + 1 + 3 * i_lp = a + 2 + 3 * i_lp by omega]; exact pd47)
        have up64 : up a sh M sh42 M57 := by rw [← hM58]; exact up55.set (by omega)
        clear e51 e52 e53 fm54 pd47 up55 hM58
        refine go_iinc (v := 1) (x := i_lp) (lv' := [(2, vi (i_lp + 1)), (0, vr a)]) X d_Stack_init_39 rfl (by decide) rfl ?_
        refine go_goto (tgt := 20) X d_Stack_init_42 rfl ?_
        refine go_kn (k' := 1 + 3 * (i_lp + 1).toNat) (n' := 12 + 65 * (i_lp + 1).toNat) (sz' := a + 2 + 3 * (i_lp + 1)) (by omega) (by omega) (by omega) ?_
        refine go_lv (lv' := [(0, vr a), (2, vi (i_lp + 1))]) X [1, 0] rfl ?_
        exact ih_lp (i_lp + 1) sh42 M57 (by omega) e48 e50 e49 e61 e60 e59 fm63 up64 (by omega)
  refine go_kn (k' := 1 + 3 * (0 : Int).toNat) (n' := 12 + 65 * (0 : Int).toNat) (sz' := a + 2 + 3 * 0) (by omega) (by omega) (by omega) ?_
  refine go_lv (lv' := [(0, vr a), (2, vi 0)]) X [1, 0] rfl ?_
  exact lp _ 0 sh7 M19 (by omega) e12 e18 e13 e23 e22 e21 fm25 up24 (Nat.lt_succ_self _)
set_option maxHeartbeats 4000000 in
set_option maxRecDepth 100000 in
theorem c_Reader_init (l : Launch) (D : va_G) {sh : s_S} {M : s_M} {sz a : Int} (hs : sh a = some (.inl (3, ts_Reader))) (hM : M a = (fun j => if j = 0 ∨ j = 1 ∨ j = 2 ∨ j = 3 ∨ j = 4 ∨ j = 8 ∨ j = 11 then -1 else 0)) (h0 : 0 ≤ a) (hz : sz = a + 1) {w : Int} (hw : sh w = some (.inr (.int, 10))) (hw0 : 0 ≤ w ∧ w < a) {s : Int} (hs0 : 0 ≤ s) : Sp l D y_Reader_init prog_8_method_1_code 4 none 4 22 896 [vr a, vr s, vr w] sh M sz (fun v sh' M' sz' => v = none ∧ sz' = a + 23 ∧ up a sh M sh' M' ∧ rdv sh' M' a s w 0 [] (fun _ => 0) (fun _ => []) []) := by
  subst hz
  have hup := up.rf (a := a) (sh := sh) (M := M)
  have d0 : M a 0 < 0 := by rw [hM]; decide
  have d1 : M a 1 < 0 := by rw [hM]; decide
  have d2 : M a 2 < 0 := by rw [hM]; decide
  have d3 : M a 3 < 0 := by rw [hM]; decide
  have d4 : M a 4 < 0 := by rw [hM]; decide
  have d5 : M a 5 = 0 := by rw [hM]; decide
  have d6 : M a 6 = 0 := by rw [hM]; decide
  have d7 : M a 7 = 0 := by rw [hM]; decide
  have d8 : M a 8 < 0 := by rw [hM]; decide
  have d9 : M a 9 = 0 := by rw [hM]; decide
  have d10 : M a 10 = 0 := by rw [hM]; decide
  have d11 : M a 11 < 0 := by rw [hM]; decide
  have d12 : M a 12 = 0 := by rw [hM]; decide
  have d13 : M a 13 = 0 := by rw [hM]; decide
  refine Sp.ofGo (own := "CiteForge$Reader") (nm := "<init>") (by decide) rfl rfl (Nat.le_of_ble_eq_true rfl) (lv := [(0, vr a), (1, vr s), (2, vr w)]) rfl ?_
  intro g X
  refine go_aload_n X d_Reader_init_0 rfl rfl ?_
  refine go_objInit X w_oi_Reader w_oi2 w_oi3 (by omega) (Nat.le_of_ble_eq_true rfl) d_Reader_init_1 ?_
  refine go_aload_n X d_Reader_init_4 rfl rfl ?_
  refine go_aload_n X d_Reader_init_5 rfl rfl ?_
  refine go_putF (x := s) (v := vr s) X f_Reader_9 rfl hs rfl d_Reader_init_6 (s_vref rfl (by omega)) rfl rfl f_Reader_9w ?_
  generalize hM2 : m_s M a 0 s = M1
  have e3 : M1 a 1 < 0 := by rw [← hM2, m_s_n (fun q => absurd q.2 (by decide))]; exact d1
  have e4 : M1 a 2 < 0 := by rw [← hM2, m_s_n (fun q => absurd q.2 (by decide))]; exact d2
  have e5 : M1 a 3 < 0 := by rw [← hM2, m_s_n (fun q => absurd q.2 (by decide))]; exact d3
  have e6 : M1 a 4 < 0 := by rw [← hM2, m_s_n (fun q => absurd q.2 (by decide))]; exact d4
  have e7 : M1 a 5 = 0 := by rw [← hM2]; exact (m_s_n (fun q => absurd q.2 (by decide))).trans d5
  have e8 : M1 a 6 = 0 := by rw [← hM2]; exact (m_s_n (fun q => absurd q.2 (by decide))).trans d6
  have e9 : M1 a 7 = 0 := by rw [← hM2]; exact (m_s_n (fun q => absurd q.2 (by decide))).trans d7
  have e10 : M1 a 8 < 0 := by rw [← hM2, m_s_n (fun q => absurd q.2 (by decide))]; exact d8
  have e11 : M1 a 9 = 0 := by rw [← hM2]; exact (m_s_n (fun q => absurd q.2 (by decide))).trans d9
  have e12 : M1 a 10 = 0 := by rw [← hM2]; exact (m_s_n (fun q => absurd q.2 (by decide))).trans d10
  have e13 : M1 a 11 < 0 := by rw [← hM2, m_s_n (fun q => absurd q.2 (by decide))]; exact d11
  have e14 : M1 a 12 = 0 := by rw [← hM2]; exact (m_s_n (fun q => absurd q.2 (by decide))).trans d12
  have e15 : M1 a 13 = 0 := by rw [← hM2]; exact (m_s_n (fun q => absurd q.2 (by decide))).trans d13
  have e16 : M1 a 0 = s := by rw [← hM2, m_s_s]
  have up17 : up a sh M sh M1 := by rw [← hM2]; exact hup.set (by omega)
  clear hM2
  refine go_aload_n X d_Reader_init_9 rfl rfl ?_
  refine go_aload_n X d_Reader_init_10 rfl rfl ?_
  refine go_putF (x := w) (v := vr w) X f_Reader_15 rfl hs rfl d_Reader_init_11 (s_varr rfl (by omega)) rfl rfl f_Reader_15w ?_
  generalize hM19 : m_s M1 a 1 w = M18
  have e20 : M18 a 2 < 0 := by rw [← hM19, m_s_n (fun q => absurd q.2 (by decide))]; exact e4
  have e21 : M18 a 3 < 0 := by rw [← hM19, m_s_n (fun q => absurd q.2 (by decide))]; exact e5
  have e22 : M18 a 4 < 0 := by rw [← hM19, m_s_n (fun q => absurd q.2 (by decide))]; exact e6
  have e23 : M18 a 5 = 0 := by rw [← hM19]; exact (m_s_n (fun q => absurd q.2 (by decide))).trans e7
  have e24 : M18 a 6 = 0 := by rw [← hM19]; exact (m_s_n (fun q => absurd q.2 (by decide))).trans e8
  have e25 : M18 a 7 = 0 := by rw [← hM19]; exact (m_s_n (fun q => absurd q.2 (by decide))).trans e9
  have e26 : M18 a 8 < 0 := by rw [← hM19, m_s_n (fun q => absurd q.2 (by decide))]; exact e10
  have e27 : M18 a 9 = 0 := by rw [← hM19]; exact (m_s_n (fun q => absurd q.2 (by decide))).trans e11
  have e28 : M18 a 10 = 0 := by rw [← hM19]; exact (m_s_n (fun q => absurd q.2 (by decide))).trans e12
  have e29 : M18 a 11 < 0 := by rw [← hM19, m_s_n (fun q => absurd q.2 (by decide))]; exact e13
  have e30 : M18 a 12 = 0 := by rw [← hM19]; exact (m_s_n (fun q => absurd q.2 (by decide))).trans e14
  have e31 : M18 a 13 = 0 := by rw [← hM19]; exact (m_s_n (fun q => absurd q.2 (by decide))).trans e15
  have e32 : M18 a 0 = s := by rw [← hM19]; exact (m_s_n (fun q => absurd q.2 (by decide))).trans e16
  have e33 : M18 a 1 = w := by rw [← hM19, m_s_s]
  have up34 : up a sh M sh M18 := by rw [← hM19]; exact up17.set (by omega)
  clear e10 e11 e12 e13 e14 e15 e16 e3 e4 e5 e6 e7 e8 e9 up17 hM19
  refine go_aload_n X d_Reader_init_14 rfl rfl ?_
  refine go_new (ts := ts_Text) (f := (fun j => if j = 0 then -1 else 0)) X cls0_ok w_cl_Reader_19 w_in_0 w_ini_0 (by decide) (by decide) (by omega) (by omega) d_Reader_init_15 ?_
  generalize hs36 : s_up sh (a + 1) (.inl (0, ts_Text)) = sh35
  generalize hM38 : m_new M18 (a + 1) (fun j => if j = 0 then -1 else 0) = M37
  have hu39 : up (a + 1) sh M18 sh35 M37 := by rw [← hs36, ← hM38]; exact up.new
  have e40 : sh35 a = some (.inl (3, ts_Reader)) := hu39.s (by omega) hs
  have e41 : sh35 w = some (.inr (.int, 10)) := hu39.s (by omega) hw
  have e42 : M37 a 2 < 0 := hu39.n (by omega) e20
  have e43 : M37 a 3 < 0 := hu39.n (by omega) e21
  have e44 : M37 a 4 < 0 := hu39.n (by omega) e22
  have e45 : M37 a 5 = 0 := hu39.m (by omega) e23
  have e46 : M37 a 6 = 0 := hu39.m (by omega) e24
  have e47 : M37 a 7 = 0 := hu39.m (by omega) e25
  have e48 : M37 a 8 < 0 := hu39.n (by omega) e26
  have e49 : M37 a 9 = 0 := hu39.m (by omega) e27
  have e50 : M37 a 10 = 0 := hu39.m (by omega) e28
  have e51 : M37 a 11 < 0 := hu39.n (by omega) e29
  have e52 : M37 a 12 = 0 := hu39.m (by omega) e30
  have e53 : M37 a 13 = 0 := hu39.m (by omega) e31
  have e54 : M37 a 0 = s := hu39.m (by omega) e32
  have e55 : M37 a 1 = w := hu39.m (by omega) e33
  have up56 : up a sh M sh35 M37 := up34.tr hu39 (by omega)
  clear e20 e21 e22 e23 e24 e25 e26 e27 e28 e29 e30 e31 e32 e33
  have e57 : sh35 (a + 1) = some (.inl (0, ts_Text)) := by rw [← hs36, s_up_s]
  have rw58 : M37 (a + 1) = (fun j => if j = 0 then -1 else 0) := by rw [← hM38, m_new_s]
  clear hs36 hM38 hu39
  refine go_kn (k' := 1) (n' := 2) (sz' := a + 2) (by omega) (by omega) (by omega) ?_
  refine go_dup X d_Reader_init_18 rfl ?_
  refine go_sipush (v := 320) X d_Reader_init_19 (by decide) ?_
  refine go_cI (st2 := []) (r := [vr (a + 1), vr a]) X k_Reader_21 (c_Text_init l D e57 rw58 (by omega) (by omega) (N := 320) rfl (by decide)) rfl rfl (by omega) (Nat.le_of_ble_eq_true rfl) d_Reader_init_22 (by omega) (by omega) (fun v sh59 M60 sz' hp => ?_)
  obtain ⟨e61, e62, hu63, pd64⟩ := hp
  subst e61
  refine go_kn (k' := 2) (n' := 322) (sz' := a + 3) (by omega) (by omega) (by omega) ?_
  show Go g (2) (322) sh59 M60 (a + 3) 25 [(0, vr a), (1, vr s), (2, vr w)] [vr (a + 1), vr a]
  have e65 : sh59 a = some (.inl (3, ts_Reader)) := hu63.s (by omega) e40
  have e66 : sh59 w = some (.inr (.int, 10)) := hu63.s (by omega) e41
  have e67 : M60 a 2 < 0 := hu63.n (by omega) e42
  have e68 : M60 a 3 < 0 := hu63.n (by omega) e43
  have e69 : M60 a 4 < 0 := hu63.n (by omega) e44
  have e70 : M60 a 5 = 0 := hu63.m (by omega) e45
  have e71 : M60 a 6 = 0 := hu63.m (by omega) e46
  have e72 : M60 a 7 = 0 := hu63.m (by omega) e47
  have e73 : M60 a 8 < 0 := hu63.n (by omega) e48
  have e74 : M60 a 9 = 0 := hu63.m (by omega) e49
  have e75 : M60 a 10 = 0 := hu63.m (by omega) e50
  have e76 : M60 a 11 < 0 := hu63.n (by omega) e51
  have e77 : M60 a 12 = 0 := hu63.m (by omega) e52
  have e78 : M60 a 13 = 0 := hu63.m (by omega) e53
  have e79 : M60 a 0 = s := hu63.m (by omega) e54
  have e80 : M60 a 1 = w := hu63.m (by omega) e55
  have up81 : up a sh M sh59 M60 := up56.tr hu63 (by omega)
  clear e40 e41 e42 e43 e44 e45 e46 e47 e48 e49 e50 e51 e52 e53 e54 e55 e57 rw58
  have e82 : sh59 (a + 1) = some (.inl (0, ts_Text)) := pd64.1.1
  clear hu63 e62
  refine go_putF (x := (a + 1)) (v := vr (a + 1)) X f_Reader_24 rfl e65 rfl d_Reader_init_25 (s_vref rfl (by omega)) rfl rfl f_Reader_24w ?_
  generalize hM84 : m_s M60 a 2 (a + 1) = M83
  have e85 : M83 a 3 < 0 := by rw [← hM84, m_s_n (fun q => absurd q.2 (by decide))]; exact e68
  have e86 : M83 a 4 < 0 := by rw [← hM84, m_s_n (fun q => absurd q.2 (by decide))]; exact e69
  have e87 : M83 a 5 = 0 := by rw [← hM84]; exact (m_s_n (fun q => absurd q.2 (by decide))).trans e70
  have e88 : M83 a 6 = 0 := by rw [← hM84]; exact (m_s_n (fun q => absurd q.2 (by decide))).trans e71
  have e89 : M83 a 7 = 0 := by rw [← hM84]; exact (m_s_n (fun q => absurd q.2 (by decide))).trans e72
  have e90 : M83 a 8 < 0 := by rw [← hM84, m_s_n (fun q => absurd q.2 (by decide))]; exact e73
  have e91 : M83 a 9 = 0 := by rw [← hM84]; exact (m_s_n (fun q => absurd q.2 (by decide))).trans e74
  have e92 : M83 a 10 = 0 := by rw [← hM84]; exact (m_s_n (fun q => absurd q.2 (by decide))).trans e75
  have e93 : M83 a 11 < 0 := by rw [← hM84, m_s_n (fun q => absurd q.2 (by decide))]; exact e76
  have e94 : M83 a 12 = 0 := by rw [← hM84]; exact (m_s_n (fun q => absurd q.2 (by decide))).trans e77
  have e95 : M83 a 13 = 0 := by rw [← hM84]; exact (m_s_n (fun q => absurd q.2 (by decide))).trans e78
  have e96 : M83 a 0 = s := by rw [← hM84]; exact (m_s_n (fun q => absurd q.2 (by decide))).trans e79
  have e97 : M83 a 1 = w := by rw [← hM84]; exact (m_s_n (fun q => absurd q.2 (by decide))).trans e80
  have pd98 : tv sh59 M83 (a + 1) 320 [] := by rw [← hM84]; exact pd64.mv (as_set (by omega))
  have e99 : M83 a 2 = a + 1 := by rw [← hM84, m_s_s]
  have up100 : up a sh M sh59 M83 := by rw [← hM84]; exact up81.set (by omega)
  clear e67 e68 e69 e70 e71 e72 e73 e74 e75 e76 e77 e78 e79 e80 pd64 up81 hM84
  refine go_aload_n X d_Reader_init_28 rfl rfl ?_
  refine go_aload_n X d_Reader_init_29 rfl rfl ?_
  refine go_get (v := vr (a + 1)) X f_Reader_24 e65 rfl d_Reader_init_30 (s_vref e99 (by omega)) ?_
  refine go_put (x := (a + 1)) (v := vr (a + 1)) X f_Reader_28 e65 rfl d_Reader_init_33 (s_vref rfl (by omega)) rfl rfl ?_
  generalize hM102 : m_s M83 a 8 (a + 1) = M101
  have e103 : M101 a 3 < 0 := by rw [← hM102, m_s_n (fun q => absurd q.2 (by decide))]; exact e85
  have e104 : M101 a 4 < 0 := by rw [← hM102, m_s_n (fun q => absurd q.2 (by decide))]; exact e86
  have e105 : M101 a 5 = 0 := by rw [← hM102]; exact (m_s_n (fun q => absurd q.2 (by decide))).trans e87
  have e106 : M101 a 6 = 0 := by rw [← hM102]; exact (m_s_n (fun q => absurd q.2 (by decide))).trans e88
  have e107 : M101 a 7 = 0 := by rw [← hM102]; exact (m_s_n (fun q => absurd q.2 (by decide))).trans e89
  have e108 : M101 a 9 = 0 := by rw [← hM102]; exact (m_s_n (fun q => absurd q.2 (by decide))).trans e91
  have e109 : M101 a 10 = 0 := by rw [← hM102]; exact (m_s_n (fun q => absurd q.2 (by decide))).trans e92
  have e110 : M101 a 11 < 0 := by rw [← hM102, m_s_n (fun q => absurd q.2 (by decide))]; exact e93
  have e111 : M101 a 12 = 0 := by rw [← hM102]; exact (m_s_n (fun q => absurd q.2 (by decide))).trans e94
  have e112 : M101 a 13 = 0 := by rw [← hM102]; exact (m_s_n (fun q => absurd q.2 (by decide))).trans e95
  have e113 : M101 a 0 = s := by rw [← hM102]; exact (m_s_n (fun q => absurd q.2 (by decide))).trans e96
  have e114 : M101 a 1 = w := by rw [← hM102]; exact (m_s_n (fun q => absurd q.2 (by decide))).trans e97
  have e115 : M101 a 2 = a + 1 := by rw [← hM102]; exact (m_s_n (fun q => absurd q.2 (by decide))).trans e99
  have pd116 : tv sh59 M101 (a + 1) 320 [] := by rw [← hM102]; exact pd98.mv (as_set (by omega))
  have e117 : M101 a 8 = a + 1 := by rw [← hM102, m_s_s]
  have up118 : up a sh M sh59 M101 := by rw [← hM102]; exact up100.set (by omega)
  clear e85 e86 e87 e88 e89 e90 e91 e92 e93 e94 e95 e96 e97 e99 pd98 up100 hM102
  refine go_aload_n X d_Reader_init_36 rfl rfl ?_
  refine go_bipush (v := 8) X d_Reader_init_37 (by decide) ?_
  refine go_newa (N := 8) (ty := .long) X w_ac_long rfl (by simp) (by omega) (by omega) (by omega) d_Reader_init_39 ?_
  generalize hs120 : s_up sh59 (a + 3) (.inr (.long, 8)) = sh119
  generalize hM122 : m_new M101 (a + 3) (fun _ => 0) = M121
  have hu123 : up (a + 3) sh59 M101 sh119 M121 := by rw [← hs120, ← hM122]; exact up.new
  have e124 : sh119 a = some (.inl (3, ts_Reader)) := hu123.s (by omega) e65
  have e125 : sh119 w = some (.inr (.int, 10)) := hu123.s (by omega) e66
  have e126 : sh119 (a + 1) = some (.inl (0, ts_Text)) := hu123.s (by omega) e82
  have e127 : M121 a 3 < 0 := hu123.n (by omega) e103
  have e128 : M121 a 4 < 0 := hu123.n (by omega) e104
  have e129 : M121 a 5 = 0 := hu123.m (by omega) e105
  have e130 : M121 a 6 = 0 := hu123.m (by omega) e106
  have e131 : M121 a 7 = 0 := hu123.m (by omega) e107
  have e132 : M121 a 9 = 0 := hu123.m (by omega) e108
  have e133 : M121 a 10 = 0 := hu123.m (by omega) e109
  have e134 : M121 a 11 < 0 := hu123.n (by omega) e110
  have e135 : M121 a 12 = 0 := hu123.m (by omega) e111
  have e136 : M121 a 13 = 0 := hu123.m (by omega) e112
  have e137 : M121 a 0 = s := hu123.m (by omega) e113
  have e138 : M121 a 1 = w := hu123.m (by omega) e114
  have e139 : M121 a 2 = a + 1 := hu123.m (by omega) e115
  have e140 : M121 a 8 = a + 1 := hu123.m (by omega) e117
  have pd141 : tv sh119 M121 (a + 1) 320 [] := pd116.mv (hu123.as (by omega))
  have up142 : up a sh M sh119 M121 := up118.tr hu123 (by omega)
  clear e103 e104 e105 e106 e107 e108 e109 e110 e111 e112 e113 e114 e115 e117 e65 e66 e82 pd116
  have e143 : sh119 (a + 3) = some (.inr (.long, 8)) := by rw [← hs120, s_up_s]
  have rw144 : M121 (a + 3) = (fun _ => 0) := by rw [← hM122, m_new_s]
  clear hs120 hM122 hu123
  refine go_kn (k' := 3) (n' := 330) (sz' := a + 4) (by omega) (by omega) (by omega) ?_
  refine go_putF (x := (a + 3)) (v := vr (a + 3)) X f_Reader_31 rfl e124 rfl d_Reader_init_41 (s_varr rfl (by omega)) rfl rfl f_Reader_31w ?_
  generalize hM146 : m_s M121 a 3 (a + 3) = M145
  have e147 : M145 a 4 < 0 := by rw [← hM146, m_s_n (fun q => absurd q.2 (by decide))]; exact e128
  have e148 : M145 a 5 = 0 := by rw [← hM146]; exact (m_s_n (fun q => absurd q.2 (by decide))).trans e129
  have e149 : M145 a 6 = 0 := by rw [← hM146]; exact (m_s_n (fun q => absurd q.2 (by decide))).trans e130
  have e150 : M145 a 7 = 0 := by rw [← hM146]; exact (m_s_n (fun q => absurd q.2 (by decide))).trans e131
  have e151 : M145 a 9 = 0 := by rw [← hM146]; exact (m_s_n (fun q => absurd q.2 (by decide))).trans e132
  have e152 : M145 a 10 = 0 := by rw [← hM146]; exact (m_s_n (fun q => absurd q.2 (by decide))).trans e133
  have e153 : M145 a 11 < 0 := by rw [← hM146, m_s_n (fun q => absurd q.2 (by decide))]; exact e134
  have e154 : M145 a 12 = 0 := by rw [← hM146]; exact (m_s_n (fun q => absurd q.2 (by decide))).trans e135
  have e155 : M145 a 13 = 0 := by rw [← hM146]; exact (m_s_n (fun q => absurd q.2 (by decide))).trans e136
  have e156 : M145 a 0 = s := by rw [← hM146]; exact (m_s_n (fun q => absurd q.2 (by decide))).trans e137
  have e157 : M145 a 1 = w := by rw [← hM146]; exact (m_s_n (fun q => absurd q.2 (by decide))).trans e138
  have e158 : M145 a 2 = a + 1 := by rw [← hM146]; exact (m_s_n (fun q => absurd q.2 (by decide))).trans e139
  have e159 : M145 a 8 = a + 1 := by rw [← hM146]; exact (m_s_n (fun q => absurd q.2 (by decide))).trans e140
  have rw160 : M145 (a + 3) = (fun _ => 0) := by rw [← hM146]; exact (m_s_a (of_ne0 (by decide))).trans rw144
  have pd161 : tv sh119 M145 (a + 1) 320 [] := by rw [← hM146]; exact pd141.mv (as_set (by omega))
  have e162 : M145 a 3 = a + 3 := by rw [← hM146, m_s_s]
  have up163 : up a sh M sh119 M145 := by rw [← hM146]; exact up142.set (by omega)
  clear e127 e128 e129 e130 e131 e132 e133 e134 e135 e136 e137 e138 e139 e140 pd141 rw144 up142 hM146
  refine go_aload_n X d_Reader_init_44 rfl rfl ?_
  refine go_bipush (v := 8) X d_Reader_init_45 (by decide) ?_
  refine go_anew (N := 8) X w_cl_Reader_19 (by decide) (by decide) (by omega) (by omega) d_Reader_init_47 ?_
  generalize hs165 : s_up sh119 (a + 4) (.inr (.object "CiteForge$Text", 8)) = sh164
  generalize hM167 : m_new M145 (a + 4) (fun _ => -1) = M166
  have hu168 : up (a + 4) sh119 M145 sh164 M166 := by rw [← hs165, ← hM167]; exact up.new
  have e169 : sh164 a = some (.inl (3, ts_Reader)) := hu168.s (by omega) e124
  have e170 : sh164 w = some (.inr (.int, 10)) := hu168.s (by omega) e125
  have e171 : sh164 (a + 1) = some (.inl (0, ts_Text)) := hu168.s (by omega) e126
  have e172 : sh164 (a + 3) = some (.inr (.long, 8)) := hu168.s (by omega) e143
  have e173 : M166 a 4 < 0 := hu168.n (by omega) e147
  have e174 : M166 a 5 = 0 := hu168.m (by omega) e148
  have e175 : M166 a 6 = 0 := hu168.m (by omega) e149
  have e176 : M166 a 7 = 0 := hu168.m (by omega) e150
  have e177 : M166 a 9 = 0 := hu168.m (by omega) e151
  have e178 : M166 a 10 = 0 := hu168.m (by omega) e152
  have e179 : M166 a 11 < 0 := hu168.n (by omega) e153
  have e180 : M166 a 12 = 0 := hu168.m (by omega) e154
  have e181 : M166 a 13 = 0 := hu168.m (by omega) e155
  have e182 : M166 a 0 = s := hu168.m (by omega) e156
  have e183 : M166 a 1 = w := hu168.m (by omega) e157
  have e184 : M166 a 2 = a + 1 := hu168.m (by omega) e158
  have e185 : M166 a 8 = a + 1 := hu168.m (by omega) e159
  have e186 : M166 a 3 = a + 3 := hu168.m (by omega) e162
  have rw187 : M166 (a + 3) = (fun _ => 0) := hu168.r (by omega) rw160
  have pd188 : tv sh164 M166 (a + 1) 320 [] := pd161.mv (hu168.as (by omega))
  have up189 : up a sh M sh164 M166 := up163.tr hu168 (by omega)
  clear e124 e125 e126 e143 e147 e148 e149 e150 e151 e152 e153 e154 e155 e156 e157 e158 e159 e162 pd161 rw160
  have e190 : sh164 (a + 4) = some (.inr (.object "CiteForge$Text", 8)) := by rw [← hs165, s_up_s]
  clear hs165 hM167 hu168
  refine go_kn (k' := 4) (n' := 338) (sz' := a + 5) (by omega) (by omega) (by omega) ?_
  refine go_putF (x := (a + 4)) (v := vr (a + 4)) X f_Reader_35 rfl e169 rfl d_Reader_init_50 (s_varr rfl (by omega)) rfl rfl f_Reader_35w ?_
  generalize hM192 : m_s M166 a 4 (a + 4) = M191
  have e193 : M191 a 5 = 0 := by rw [← hM192]; exact (m_s_n (fun q => absurd q.2 (by decide))).trans e174
  have e194 : M191 a 6 = 0 := by rw [← hM192]; exact (m_s_n (fun q => absurd q.2 (by decide))).trans e175
  have e195 : M191 a 7 = 0 := by rw [← hM192]; exact (m_s_n (fun q => absurd q.2 (by decide))).trans e176
  have e196 : M191 a 9 = 0 := by rw [← hM192]; exact (m_s_n (fun q => absurd q.2 (by decide))).trans e177
  have e197 : M191 a 10 = 0 := by rw [← hM192]; exact (m_s_n (fun q => absurd q.2 (by decide))).trans e178
  have e198 : M191 a 11 < 0 := by rw [← hM192, m_s_n (fun q => absurd q.2 (by decide))]; exact e179
  have e199 : M191 a 12 = 0 := by rw [← hM192]; exact (m_s_n (fun q => absurd q.2 (by decide))).trans e180
  have e200 : M191 a 13 = 0 := by rw [← hM192]; exact (m_s_n (fun q => absurd q.2 (by decide))).trans e181
  have e201 : M191 a 0 = s := by rw [← hM192]; exact (m_s_n (fun q => absurd q.2 (by decide))).trans e182
  have e202 : M191 a 1 = w := by rw [← hM192]; exact (m_s_n (fun q => absurd q.2 (by decide))).trans e183
  have e203 : M191 a 2 = a + 1 := by rw [← hM192]; exact (m_s_n (fun q => absurd q.2 (by decide))).trans e184
  have e204 : M191 a 8 = a + 1 := by rw [← hM192]; exact (m_s_n (fun q => absurd q.2 (by decide))).trans e185
  have e205 : M191 a 3 = a + 3 := by rw [← hM192]; exact (m_s_n (fun q => absurd q.2 (by decide))).trans e186
  have rw206 : M191 (a + 3) = (fun _ => 0) := by rw [← hM192]; exact (m_s_a (of_ne0 (by decide))).trans rw187
  have pd207 : tv sh164 M191 (a + 1) 320 [] := by rw [← hM192]; exact pd188.mv (as_set (by omega))
  have e208 : M191 a 4 = a + 4 := by rw [← hM192, m_s_s]
  have up209 : up a sh M sh164 M191 := by rw [← hM192]; exact up189.set (by omega)
  clear e173 e174 e175 e176 e177 e178 e179 e180 e181 e182 e183 e184 e185 e186 pd188 rw187 up189 hM192
  refine go_iconst (v := 0) X d_Reader_init_53 ?_
  refine go_istore_n (lv' := [(3, vi 0), (0, vr a), (1, vr s), (2, vr w)]) X d_Reader_init_54 rfl (by decide) rfl ?_
  have fm210 : fam 2 (lT (fun _ => [])) sh164 M191 (a + 4) 0 := fun i h0 h1 => absurd h1 (by omega)
  have lp : ∀ (fuel : Nat) (i_lp : Int) (shx_lp : s_S) (Mx_lp : s_M), 0 ≤ i_lp ∧ i_lp ≤ 8 → (shx_lp a = some (.inl (3, ts_Reader))) → (shx_lp (a + 1) = some (.inl (0, ts_Text))) → (shx_lp (a + 3) = some (.inr (.long, 8))) → (shx_lp (a + 4) = some (.inr (.object "CiteForge$Text", 8))) → (shx_lp w = some (.inr (.int, 10))) → (Mx_lp a 0 = s) → (Mx_lp a 1 = w) → (Mx_lp a 10 = 0) → (Mx_lp a 11 < 0) → (Mx_lp a 12 = 0) → (Mx_lp a 13 = 0) → (Mx_lp a 2 = a + 1) → (Mx_lp a 3 = a + 3) → (Mx_lp a 4 = a + 4) → (Mx_lp a 5 = 0) → (Mx_lp a 6 = 0) → (Mx_lp a 7 = 0) → (Mx_lp a 8 = a + 1) → (Mx_lp a 9 = 0) → (Mx_lp (a + 3) = (fun _ => 0)) → (tv shx_lp Mx_lp (a + 1) 320 []) → (fam 2 (lT (fun _ => [])) shx_lp Mx_lp (a + 4) i_lp) → (up a sh M shx_lp Mx_lp) → (8 - i_lp).toNat < fuel → Go g (4 + 2 * i_lp.toNat) (338 + 62 * i_lp.toNat) shx_lp Mx_lp (a + 5 + 2 * i_lp) 55 [(0, vr a), (3, vi i_lp)] [] := by
    intro fuel
    induction fuel with
    | zero => intro i_lp shx_lp Mx_lp hi_lp g0_lp g1_lp g2_lp g3_lp g4_lp g5_lp g6_lp g7_lp g8_lp g9_lp g10_lp g11_lp g12_lp g13_lp g14_lp g15_lp g16_lp g17_lp g18_lp g19_lp g20_lp g21_lp g22_lp hm_lp; exact absurd hm_lp (Nat.not_lt_zero _)
    | succ fuel ih_lp =>
      intro i_lp shx_lp Mx_lp hi_lp g0_lp g1_lp g2_lp g3_lp g4_lp g5_lp g6_lp g7_lp g8_lp g9_lp g10_lp g11_lp g12_lp g13_lp g14_lp g15_lp g16_lp g17_lp g18_lp g19_lp g20_lp g21_lp g22_lp hm_lp
      refine go_iload_n X d_Reader_init_55 rfl rfl ?_
      refine go_bipush (v := 8) X d_Reader_init_56 (by decide) ?_
      refine go_icmp_ge (tgt := 82) X d_Reader_init_58 rfl (by omega) (by omega) (fun hq211 => ?_) (fun hq211 => ?_)
      · skip
        refine go_aload_n X d_Reader_init_82 rfl rfl ?_
        refine go_new (ts := ts_Text) (f := (fun j => if j = 0 then -1 else 0)) X cls0_ok w_cl_Reader_19 w_in_0 w_ini_0 (by decide) (by decide) (by omega) (by omega) d_Reader_init_83 ?_
        generalize hs213 : s_up shx_lp (a + 5 + 2 * i_lp) (.inl (0, ts_Text)) = sh212
        generalize hM215 : m_new Mx_lp (a + 5 + 2 * i_lp) (fun j => if j = 0 then -1 else 0) = M214
        have hu216 : up (a + 5 + 2 * i_lp) shx_lp Mx_lp sh212 M214 := by rw [← hs213, ← hM215]; exact up.new
        have e217 : sh212 a = some (.inl (3, ts_Reader)) := hu216.s (by omega) g0_lp
        have e218 : sh212 w = some (.inr (.int, 10)) := hu216.s (by omega) g4_lp
        have e219 : sh212 (a + 1) = some (.inl (0, ts_Text)) := hu216.s (by omega) g1_lp
        have e220 : sh212 (a + 3) = some (.inr (.long, 8)) := hu216.s (by omega) g2_lp
        have e221 : sh212 (a + 4) = some (.inr (.object "CiteForge$Text", 8)) := hu216.s (by omega) g3_lp
        have e222 : M214 a 5 = 0 := hu216.m (by omega) g14_lp
        have e223 : M214 a 6 = 0 := hu216.m (by omega) g15_lp
        have e224 : M214 a 7 = 0 := hu216.m (by omega) g16_lp
        have e225 : M214 a 9 = 0 := hu216.m (by omega) g18_lp
        have e226 : M214 a 10 = 0 := hu216.m (by omega) g7_lp
        have e227 : M214 a 11 < 0 := hu216.n (by omega) g8_lp
        have e228 : M214 a 12 = 0 := hu216.m (by omega) g9_lp
        have e229 : M214 a 13 = 0 := hu216.m (by omega) g10_lp
        have e230 : M214 a 0 = s := hu216.m (by omega) g5_lp
        have e231 : M214 a 1 = w := hu216.m (by omega) g6_lp
        have e232 : M214 a 2 = a + 1 := hu216.m (by omega) g11_lp
        have e233 : M214 a 8 = a + 1 := hu216.m (by omega) g17_lp
        have e234 : M214 a 3 = a + 3 := hu216.m (by omega) g12_lp
        have e235 : M214 a 4 = a + 4 := hu216.m (by omega) g13_lp
        have rw236 : M214 (a + 3) = (fun _ => 0) := hu216.r (by omega) g19_lp
        have pd237 : tv sh212 M214 (a + 1) 320 [] := g20_lp.mv (hu216.as (by omega))
        have fm238 : fam 2 (lT (fun _ => [])) sh212 M214 (a + 4) i_lp := g21_lp.mv (by decide) lT_loc (hu216.as (by omega))
        have up239 : up a sh M sh212 M214 := g22_lp.tr hu216 (by omega)
        have e240 : sh212 (a + 5 + 2 * i_lp) = some (.inl (0, ts_Text)) := by rw [← hs213, s_up_s]
        have rw241 : M214 (a + 5 + 2 * i_lp) = (fun j => if j = 0 then -1 else 0) := by rw [← hM215, m_new_s]
        clear hs213 hM215 hu216
        refine go_kn (k' := 4 + 2 * i_lp.toNat + 1) (n' := 338 + 62 * i_lp.toNat + 2) (sz' := a + 5 + 2 * i_lp + 1) (by omega) (by omega) (by omega) ?_
        refine go_dup X d_Reader_init_86 rfl ?_
        refine go_bipush (v := 60) X d_Reader_init_87 (by decide) ?_
        refine go_cI (st2 := []) (r := [vr (a + 5 + 2 * i_lp), vr a]) X k_Reader_21 (c_Text_init l D e240 rw241 (by omega) (by omega) (N := 60) rfl (by decide)) rfl rfl (by omega) (Nat.le_of_ble_eq_true rfl) d_Reader_init_89 (by omega) (by omega) (fun v sh242 M243 sz' hp => ?_)
        obtain ⟨e244, e245, hu246, pd247⟩ := hp
        subst e244
        refine go_kn (k' := 4 + 2 * i_lp.toNat + 2) (n' := 338 + 62 * i_lp.toNat + 62) (sz' := a + 5 + 2 * i_lp + 2) (by omega) (by omega) (by omega) ?_
        show Go g (4 + 2 * i_lp.toNat + 2) (338 + 62 * i_lp.toNat + 62) sh242 M243 (a + 5 + 2 * i_lp + 2) 92 [(0, vr a), (3, vi i_lp)] [vr (a + 5 + 2 * i_lp), vr a]
        have e248 : sh242 a = some (.inl (3, ts_Reader)) := hu246.s (by omega) e217
        have e249 : sh242 w = some (.inr (.int, 10)) := hu246.s (by omega) e218
        have e250 : sh242 (a + 1) = some (.inl (0, ts_Text)) := hu246.s (by omega) e219
        have e251 : sh242 (a + 3) = some (.inr (.long, 8)) := hu246.s (by omega) e220
        have e252 : sh242 (a + 4) = some (.inr (.object "CiteForge$Text", 8)) := hu246.s (by omega) e221
        have e253 : M243 a 5 = 0 := hu246.m (by omega) e222
        have e254 : M243 a 6 = 0 := hu246.m (by omega) e223
        have e255 : M243 a 7 = 0 := hu246.m (by omega) e224
        have e256 : M243 a 9 = 0 := hu246.m (by omega) e225
        have e257 : M243 a 10 = 0 := hu246.m (by omega) e226
        have e258 : M243 a 11 < 0 := hu246.n (by omega) e227
        have e259 : M243 a 12 = 0 := hu246.m (by omega) e228
        have e260 : M243 a 13 = 0 := hu246.m (by omega) e229
        have e261 : M243 a 0 = s := hu246.m (by omega) e230
        have e262 : M243 a 1 = w := hu246.m (by omega) e231
        have e263 : M243 a 2 = a + 1 := hu246.m (by omega) e232
        have e264 : M243 a 8 = a + 1 := hu246.m (by omega) e233
        have e265 : M243 a 3 = a + 3 := hu246.m (by omega) e234
        have e266 : M243 a 4 = a + 4 := hu246.m (by omega) e235
        have rw267 : M243 (a + 3) = (fun _ => 0) := hu246.r (by omega) rw236
        have pd268 : tv sh242 M243 (a + 1) 320 [] := pd237.mv (hu246.as (by omega))
        have fm269 : fam 2 (lT (fun _ => [])) sh242 M243 (a + 4) i_lp := fm238.mv (by decide) lT_loc (hu246.as (by omega))
        have up270 : up a sh M sh242 M243 := up239.tr hu246 (by omega)
        clear e217 e218 e219 e220 e221 e222 e223 e224 e225 e226 e227 e228 e229 e230 e231 e232 e233 e234 e235 e240 fm238 pd237 rw236 rw241
        have e271 : sh242 (a + 5 + 2 * i_lp) = some (.inl (0, ts_Text)) := pd247.1.1
        clear hu246 e245
        refine go_putF (x := (a + 5 + 2 * i_lp)) (v := vr (a + 5 + 2 * i_lp)) X f_Reader_39 rfl e248 rfl d_Reader_init_92 (s_vref rfl (by omega)) rfl rfl f_Reader_39w ?_
        generalize hM273 : m_s M243 a 11 (a + 5 + 2 * i_lp) = M272
        have e274 : M272 a 5 = 0 := by rw [← hM273]; exact (m_s_n (fun q => absurd q.2 (by decide))).trans e253
        have e275 : M272 a 6 = 0 := by rw [← hM273]; exact (m_s_n (fun q => absurd q.2 (by decide))).trans e254
        have e276 : M272 a 7 = 0 := by rw [← hM273]; exact (m_s_n (fun q => absurd q.2 (by decide))).trans e255
        have e277 : M272 a 9 = 0 := by rw [← hM273]; exact (m_s_n (fun q => absurd q.2 (by decide))).trans e256
        have e278 : M272 a 10 = 0 := by rw [← hM273]; exact (m_s_n (fun q => absurd q.2 (by decide))).trans e257
        have e279 : M272 a 12 = 0 := by rw [← hM273]; exact (m_s_n (fun q => absurd q.2 (by decide))).trans e259
        have e280 : M272 a 13 = 0 := by rw [← hM273]; exact (m_s_n (fun q => absurd q.2 (by decide))).trans e260
        have e281 : M272 a 0 = s := by rw [← hM273]; exact (m_s_n (fun q => absurd q.2 (by decide))).trans e261
        have e282 : M272 a 1 = w := by rw [← hM273]; exact (m_s_n (fun q => absurd q.2 (by decide))).trans e262
        have e283 : M272 a 2 = a + 1 := by rw [← hM273]; exact (m_s_n (fun q => absurd q.2 (by decide))).trans e263
        have e284 : M272 a 8 = a + 1 := by rw [← hM273]; exact (m_s_n (fun q => absurd q.2 (by decide))).trans e264
        have e285 : M272 a 3 = a + 3 := by rw [← hM273]; exact (m_s_n (fun q => absurd q.2 (by decide))).trans e265
        have e286 : M272 a 4 = a + 4 := by rw [← hM273]; exact (m_s_n (fun q => absurd q.2 (by decide))).trans e266
        have rw287 : M272 (a + 3) = (fun _ => 0) := by rw [← hM273]; exact (m_s_a (of_ne0 (by decide))).trans rw267
        have pd288 : tv sh242 M272 (a + 1) 320 [] := by rw [← hM273]; exact pd268.mv (as_set (by omega))
        have pd289 : tv sh242 M272 (a + 5 + 2 * i_lp) 60 [] := by rw [← hM273]; exact pd247.mv (as_set (by omega))
        have fm290 : fam 2 (lT (fun _ => [])) sh242 M272 (a + 4) i_lp := by rw [← hM273]; exact fm269.mv (by decide) lT_loc (as_set (by omega))
        have e291 : M272 a 11 = a + 5 + 2 * i_lp := by rw [← hM273, m_s_s]
        have up292 : up a sh M sh242 M272 := by rw [← hM273]; exact up270.set (by omega)
        clear e253 e254 e255 e256 e257 e258 e259 e260 e261 e262 e263 e264 e265 e266 fm269 pd247 pd268 rw267 up270 hM273
        refine go_vret X d_Reader_init_95 rfl (by omega) (by omega) ?_
        have hi8 : i_lp = 8 := by omega
        subst hi8
        exact ⟨rfl, by omega, up292, ⟨e248, e251, e252, e249, e281, e282, e283, e285, e286, e291.trans (by omega), e274, by decide, h0, hw0.1, hw0.2, hs0, pd288, rw287, fun _ => (by decide : rL 0), fm290, by rw [show a + 21 = a + 5 + 2 * 8 by omega]; exact pd289⟩⟩
      · skip
        refine go_aload_n X d_Reader_init_61 rfl rfl ?_
        refine go_get (v := vr (a + 4)) X f_Reader_35 g0_lp rfl d_Reader_init_62 (s_varr g13_lp (by omega)) ?_
        refine go_iload_n X d_Reader_init_65 rfl rfl ?_
        refine go_new (ts := ts_Text) (f := (fun j => if j = 0 then -1 else 0)) X cls0_ok w_cl_Reader_19 w_in_0 w_ini_0 (by decide) (by decide) (by omega) (by omega) d_Reader_init_66 ?_
        generalize hs294 : s_up shx_lp (a + 5 + 2 * i_lp) (.inl (0, ts_Text)) = sh293
        generalize hM296 : m_new Mx_lp (a + 5 + 2 * i_lp) (fun j => if j = 0 then -1 else 0) = M295
        have hu297 : up (a + 5 + 2 * i_lp) shx_lp Mx_lp sh293 M295 := by rw [← hs294, ← hM296]; exact up.new
        have e298 : sh293 a = some (.inl (3, ts_Reader)) := hu297.s (by omega) g0_lp
        have e299 : sh293 w = some (.inr (.int, 10)) := hu297.s (by omega) g4_lp
        have e300 : sh293 (a + 1) = some (.inl (0, ts_Text)) := hu297.s (by omega) g1_lp
        have e301 : sh293 (a + 3) = some (.inr (.long, 8)) := hu297.s (by omega) g2_lp
        have e302 : sh293 (a + 4) = some (.inr (.object "CiteForge$Text", 8)) := hu297.s (by omega) g3_lp
        have e303 : M295 a 5 = 0 := hu297.m (by omega) g14_lp
        have e304 : M295 a 6 = 0 := hu297.m (by omega) g15_lp
        have e305 : M295 a 7 = 0 := hu297.m (by omega) g16_lp
        have e306 : M295 a 9 = 0 := hu297.m (by omega) g18_lp
        have e307 : M295 a 10 = 0 := hu297.m (by omega) g7_lp
        have e308 : M295 a 11 < 0 := hu297.n (by omega) g8_lp
        have e309 : M295 a 12 = 0 := hu297.m (by omega) g9_lp
        have e310 : M295 a 13 = 0 := hu297.m (by omega) g10_lp
        have e311 : M295 a 0 = s := hu297.m (by omega) g5_lp
        have e312 : M295 a 1 = w := hu297.m (by omega) g6_lp
        have e313 : M295 a 2 = a + 1 := hu297.m (by omega) g11_lp
        have e314 : M295 a 8 = a + 1 := hu297.m (by omega) g17_lp
        have e315 : M295 a 3 = a + 3 := hu297.m (by omega) g12_lp
        have e316 : M295 a 4 = a + 4 := hu297.m (by omega) g13_lp
        have rw317 : M295 (a + 3) = (fun _ => 0) := hu297.r (by omega) g19_lp
        have pd318 : tv sh293 M295 (a + 1) 320 [] := g20_lp.mv (hu297.as (by omega))
        have fm319 : fam 2 (lT (fun _ => [])) sh293 M295 (a + 4) i_lp := g21_lp.mv (by decide) lT_loc (hu297.as (by omega))
        have up320 : up a sh M sh293 M295 := g22_lp.tr hu297 (by omega)
        have e321 : sh293 (a + 5 + 2 * i_lp) = some (.inl (0, ts_Text)) := by rw [← hs294, s_up_s]
        have rw322 : M295 (a + 5 + 2 * i_lp) = (fun j => if j = 0 then -1 else 0) := by rw [← hM296, m_new_s]
        clear hs294 hM296 hu297
        refine go_kn (k' := 4 + 2 * i_lp.toNat + 1) (n' := 338 + 62 * i_lp.toNat + 2) (sz' := a + 5 + 2 * i_lp + 1) (by omega) (by omega) (by omega) ?_
        refine go_dup X d_Reader_init_69 rfl ?_
        refine go_bipush (v := 60) X d_Reader_init_70 (by decide) ?_
        refine go_cI (st2 := []) (r := [vr (a + 5 + 2 * i_lp), vi i_lp, vr (a + 4)]) X k_Reader_21 (c_Text_init l D e321 rw322 (by omega) (by omega) (N := 60) rfl (by decide)) rfl rfl (by omega) (Nat.le_of_ble_eq_true rfl) d_Reader_init_72 (by omega) (by omega) (fun v sh323 M324 sz' hp => ?_)
        obtain ⟨e325, e326, hu327, pd328⟩ := hp
        subst e325
        refine go_kn (k' := 4 + 2 * i_lp.toNat + 2) (n' := 338 + 62 * i_lp.toNat + 62) (sz' := a + 5 + 2 * i_lp + 2) (by omega) (by omega) (by omega) ?_
        show Go g (4 + 2 * i_lp.toNat + 2) (338 + 62 * i_lp.toNat + 62) sh323 M324 (a + 5 + 2 * i_lp + 2) 75 [(0, vr a), (3, vi i_lp)] [vr (a + 5 + 2 * i_lp), vi i_lp, vr (a + 4)]
        have e329 : sh323 a = some (.inl (3, ts_Reader)) := hu327.s (by omega) e298
        have e330 : sh323 w = some (.inr (.int, 10)) := hu327.s (by omega) e299
        have e331 : sh323 (a + 1) = some (.inl (0, ts_Text)) := hu327.s (by omega) e300
        have e332 : sh323 (a + 3) = some (.inr (.long, 8)) := hu327.s (by omega) e301
        have e333 : sh323 (a + 4) = some (.inr (.object "CiteForge$Text", 8)) := hu327.s (by omega) e302
        have e334 : M324 a 5 = 0 := hu327.m (by omega) e303
        have e335 : M324 a 6 = 0 := hu327.m (by omega) e304
        have e336 : M324 a 7 = 0 := hu327.m (by omega) e305
        have e337 : M324 a 9 = 0 := hu327.m (by omega) e306
        have e338 : M324 a 10 = 0 := hu327.m (by omega) e307
        have e339 : M324 a 11 < 0 := hu327.n (by omega) e308
        have e340 : M324 a 12 = 0 := hu327.m (by omega) e309
        have e341 : M324 a 13 = 0 := hu327.m (by omega) e310
        have e342 : M324 a 0 = s := hu327.m (by omega) e311
        have e343 : M324 a 1 = w := hu327.m (by omega) e312
        have e344 : M324 a 2 = a + 1 := hu327.m (by omega) e313
        have e345 : M324 a 8 = a + 1 := hu327.m (by omega) e314
        have e346 : M324 a 3 = a + 3 := hu327.m (by omega) e315
        have e347 : M324 a 4 = a + 4 := hu327.m (by omega) e316
        have rw348 : M324 (a + 3) = (fun _ => 0) := hu327.r (by omega) rw317
        have pd349 : tv sh323 M324 (a + 1) 320 [] := pd318.mv (hu327.as (by omega))
        have fm350 : fam 2 (lT (fun _ => [])) sh323 M324 (a + 4) i_lp := fm319.mv (by decide) lT_loc (hu327.as (by omega))
        have up351 : up a sh M sh323 M324 := up320.tr hu327 (by omega)
        clear e298 e299 e300 e301 e302 e303 e304 e305 e306 e307 e308 e309 e310 e311 e312 e313 e314 e315 e316 e321 fm319 pd318 rw317 rw322
        have e352 : sh323 (a + 5 + 2 * i_lp) = some (.inl (0, ts_Text)) := pd328.1.1
        clear hu327 e326
        refine go_aast X e333 (by omega) (by omega) (cls0) e352 d_Reader_init_75 ?_
        generalize hM354 : m_s M324 (a + 4) i_lp (a + 5 + 2 * i_lp) = M353
        have e355 : M353 a 5 = 0 := by rw [← hM354]; exact (m_s_n (fun q => absurd q.1 (of_ne1 (by decide)))).trans e334
        have e356 : M353 a 6 = 0 := by rw [← hM354]; exact (m_s_n (fun q => absurd q.1 (of_ne1 (by decide)))).trans e335
        have e357 : M353 a 7 = 0 := by rw [← hM354]; exact (m_s_n (fun q => absurd q.1 (of_ne1 (by decide)))).trans e336
        have e358 : M353 a 9 = 0 := by rw [← hM354]; exact (m_s_n (fun q => absurd q.1 (of_ne1 (by decide)))).trans e337
        have e359 : M353 a 10 = 0 := by rw [← hM354]; exact (m_s_n (fun q => absurd q.1 (of_ne1 (by decide)))).trans e338
        have e360 : M353 a 11 < 0 := by rw [← hM354, m_s_n (fun q => absurd q.1 (of_ne1 (by decide)))]; exact e339
        have e361 : M353 a 12 = 0 := by rw [← hM354]; exact (m_s_n (fun q => absurd q.1 (of_ne1 (by decide)))).trans e340
        have e362 : M353 a 13 = 0 := by rw [← hM354]; exact (m_s_n (fun q => absurd q.1 (of_ne1 (by decide)))).trans e341
        have e363 : M353 a 0 = s := by rw [← hM354]; exact (m_s_n (fun q => absurd q.1 (of_ne1 (by decide)))).trans e342
        have e364 : M353 a 1 = w := by rw [← hM354]; exact (m_s_n (fun q => absurd q.1 (of_ne1 (by decide)))).trans e343
        have e365 : M353 a 2 = a + 1 := by rw [← hM354]; exact (m_s_n (fun q => absurd q.1 (of_ne1 (by decide)))).trans e344
        have e366 : M353 a 8 = a + 1 := by rw [← hM354]; exact (m_s_n (fun q => absurd q.1 (of_ne1 (by decide)))).trans e345
        have e367 : M353 a 3 = a + 3 := by rw [← hM354]; exact (m_s_n (fun q => absurd q.1 (of_ne1 (by decide)))).trans e346
        have e368 : M353 a 4 = a + 4 := by rw [← hM354]; exact (m_s_n (fun q => absurd q.1 (of_ne1 (by decide)))).trans e347
        have rw369 : M353 (a + 3) = (fun _ => 0) := by rw [← hM354]; exact (m_s_a (of_ne (by decide))).trans rw348
        have pd370 : tv sh323 M353 (a + 1) 320 [] := by rw [← hM354]; exact pd349.mv (as_set (by omega))
        have pd371 : tv sh323 M353 (a + 5 + 2 * i_lp) 60 [] := by rw [← hM354]; exact pd328.mv (as_set (by omega))
        have fm372 : fam 2 (lT (fun _ => [])) sh323 M353 (a + 4) (i_lp + 1) := by
          rw [← hM354, show a + 5 + 2 * i_lp = a + 4 + 1 + 2 * i_lp by omega]
          exact fm350.push (by decide) lT_loc (by omega) (by rw [show a + 4 + 1 + 2 * i_lp = a + 5 + 2 * i_lp by omega]; exact pd328)
        have up373 : up a sh M sh323 M353 := by rw [← hM354]; exact up351.set (by omega)
        clear e334 e335 e336 e337 e338 e339 e340 e341 e342 e343 e344 e345 e346 e347 fm350 pd328 pd349 rw348 up351 hM354
        refine go_iinc (v := 1) (x := i_lp) (lv' := [(3, vi (i_lp + 1)), (0, vr a)]) X d_Reader_init_76 rfl (by decide) rfl ?_
        refine go_goto (tgt := 55) X d_Reader_init_79 rfl ?_
        refine go_kn (k' := 4 + 2 * (i_lp + 1).toNat) (n' := 338 + 62 * (i_lp + 1).toNat) (sz' := a + 5 + 2 * (i_lp + 1)) (by omega) (by omega) (by omega) ?_
        refine go_lv (lv' := [(0, vr a), (3, vi (i_lp + 1))]) X [1, 0] rfl ?_
        exact ih_lp (i_lp + 1) sh323 M353 (by omega) e329 e331 e332 e333 e330 e363 e364 e359 e360 e361 e362 e365 e367 e368 e355 e356 e357 e366 e358 rw369 pd370 fm372 up373 (by omega)
  refine go_kn (k' := 4 + 2 * (0 : Int).toNat) (n' := 338 + 62 * (0 : Int).toNat) (sz' := a + 5 + 2 * 0) (by omega) (by omega) (by omega) ?_
  refine go_lv (lv' := [(0, vr a), (3, vi 0)]) X [1, 0] rfl ?_
  exact lp _ 0 sh164 M191 (by omega) e169 e171 e172 e190 e170 e201 e202 e197 e198 e199 e200 e203 e205 e208 e193 e194 e195 e204 e196 rw206 pd207 fm210 up209 (Nat.lt_succ_self _)
set_option maxHeartbeats 4000000 in
set_option maxRecDepth 100000 in
theorem c_Citations_init (l : Launch) (D : va_G) {sh : s_S} {M : s_M} {sz a : Int} (hs : sh a = some (.inl (4, ts_Citations))) (hM : M a = (fun j => if j = 0 ∨ j = 1 ∨ j = 2 ∨ j = 4 then -1 else 0)) (h0 : 0 ≤ a) (hz : sz = a + 1) {w : Int} (hw : sh w = some (.inr (.int, 10))) (hw0 : 0 ≤ w ∧ w < a) {s : Int} (hs0 : 0 ≤ s) : Sp l D y_Citations_init prog_2_method_1_code 3 none 2 2 18 [vr a, vr s, vr w] sh M sz (fun v sh' M' sz' => v = none ∧ sz' = a + 3 ∧ up a sh M sh' M' ∧ civ sh' M' a s w 0 0 (fun _ => 0) (fun _ => 0)) := by
  subst hz
  have hup := up.rf (a := a) (sh := sh) (M := M)
  have d0 : M a 0 < 0 := by rw [hM]; decide
  have d1 : M a 1 < 0 := by rw [hM]; decide
  have d2 : M a 2 < 0 := by rw [hM]; decide
  have d3 : M a 3 = 0 := by rw [hM]; decide
  have d4 : M a 4 < 0 := by rw [hM]; decide
  have d5 : M a 5 = 0 := by rw [hM]; decide
  refine Sp.ofGo (own := "CiteForge$Citations") (nm := "<init>") (by decide) rfl rfl (Nat.le_of_ble_eq_true rfl) (lv := [(0, vr a), (1, vr s), (2, vr w)]) rfl ?_
  intro g X
  refine go_aload_n X d_Citations_init_0 rfl rfl ?_
  refine go_objInit X w_oi_Citations w_oi2 w_oi3 (by omega) (Nat.le_of_ble_eq_true rfl) d_Citations_init_1 ?_
  refine go_aload_n X d_Citations_init_4 rfl rfl ?_
  refine go_aload_n X d_Citations_init_5 rfl rfl ?_
  refine go_putF (x := s) (v := vr s) X f_Citations_9 rfl hs rfl d_Citations_init_6 (s_vref rfl (by omega)) rfl rfl f_Citations_9w ?_
  generalize hM2 : m_s M a 0 s = M1
  have e3 : M1 a 1 < 0 := by rw [← hM2, m_s_n (fun q => absurd q.2 (by decide))]; exact d1
  have e4 : M1 a 2 < 0 := by rw [← hM2, m_s_n (fun q => absurd q.2 (by decide))]; exact d2
  have e5 : M1 a 3 = 0 := by rw [← hM2]; exact (m_s_n (fun q => absurd q.2 (by decide))).trans d3
  have e6 : M1 a 4 < 0 := by rw [← hM2, m_s_n (fun q => absurd q.2 (by decide))]; exact d4
  have e7 : M1 a 5 = 0 := by rw [← hM2]; exact (m_s_n (fun q => absurd q.2 (by decide))).trans d5
  have e8 : M1 a 0 = s := by rw [← hM2, m_s_s]
  have up9 : up a sh M sh M1 := by rw [← hM2]; exact hup.set (by omega)
  clear hM2
  refine go_aload_n X d_Citations_init_9 rfl rfl ?_
  refine go_aload_n X d_Citations_init_10 rfl rfl ?_
  refine go_putF (x := w) (v := vr w) X f_Citations_15 rfl hs rfl d_Citations_init_11 (s_varr rfl (by omega)) rfl rfl f_Citations_15w ?_
  generalize hM11 : m_s M1 a 1 w = M10
  have e12 : M10 a 2 < 0 := by rw [← hM11, m_s_n (fun q => absurd q.2 (by decide))]; exact e4
  have e13 : M10 a 3 = 0 := by rw [← hM11]; exact (m_s_n (fun q => absurd q.2 (by decide))).trans e5
  have e14 : M10 a 4 < 0 := by rw [← hM11, m_s_n (fun q => absurd q.2 (by decide))]; exact e6
  have e15 : M10 a 5 = 0 := by rw [← hM11]; exact (m_s_n (fun q => absurd q.2 (by decide))).trans e7
  have e16 : M10 a 0 = s := by rw [← hM11]; exact (m_s_n (fun q => absurd q.2 (by decide))).trans e8
  have e17 : M10 a 1 = w := by rw [← hM11, m_s_s]
  have up18 : up a sh M sh M10 := by rw [← hM11]; exact up9.set (by omega)
  clear e3 e4 e5 e6 e7 e8 up9 hM11
  refine go_aload_n X d_Citations_init_14 rfl rfl ?_
  refine go_bipush (v := 10) X d_Citations_init_15 (by decide) ?_
  refine go_newa (N := 10) (ty := .long) X w_ac_long rfl (by simp) (by omega) (by omega) (by omega) d_Citations_init_17 ?_
  generalize hs20 : s_up sh (a + 1) (.inr (.long, 10)) = sh19
  generalize hM22 : m_new M10 (a + 1) (fun _ => 0) = M21
  have hu23 : up (a + 1) sh M10 sh19 M21 := by rw [← hs20, ← hM22]; exact up.new
  have e24 : sh19 a = some (.inl (4, ts_Citations)) := hu23.s (by omega) hs
  have e25 : sh19 w = some (.inr (.int, 10)) := hu23.s (by omega) hw
  have e26 : M21 a 2 < 0 := hu23.n (by omega) e12
  have e27 : M21 a 3 = 0 := hu23.m (by omega) e13
  have e28 : M21 a 4 < 0 := hu23.n (by omega) e14
  have e29 : M21 a 5 = 0 := hu23.m (by omega) e15
  have e30 : M21 a 0 = s := hu23.m (by omega) e16
  have e31 : M21 a 1 = w := hu23.m (by omega) e17
  have up32 : up a sh M sh19 M21 := up18.tr hu23 (by omega)
  clear e12 e13 e14 e15 e16 e17
  have e33 : sh19 (a + 1) = some (.inr (.long, 10)) := by rw [← hs20, s_up_s]
  have rw34 : M21 (a + 1) = (fun _ => 0) := by rw [← hM22, m_new_s]
  clear hs20 hM22 hu23
  refine go_kn (k' := 1) (n' := 10) (sz' := a + 2) (by omega) (by omega) (by omega) ?_
  refine go_putF (x := (a + 1)) (v := vr (a + 1)) X f_Citations_19 rfl e24 rfl d_Citations_init_19 (s_varr rfl (by omega)) rfl rfl f_Citations_19w ?_
  generalize hM36 : m_s M21 a 2 (a + 1) = M35
  have e37 : M35 a 3 = 0 := by rw [← hM36]; exact (m_s_n (fun q => absurd q.2 (by decide))).trans e27
  have e38 : M35 a 4 < 0 := by rw [← hM36, m_s_n (fun q => absurd q.2 (by decide))]; exact e28
  have e39 : M35 a 5 = 0 := by rw [← hM36]; exact (m_s_n (fun q => absurd q.2 (by decide))).trans e29
  have e40 : M35 a 0 = s := by rw [← hM36]; exact (m_s_n (fun q => absurd q.2 (by decide))).trans e30
  have e41 : M35 a 1 = w := by rw [← hM36]; exact (m_s_n (fun q => absurd q.2 (by decide))).trans e31
  have rw42 : M35 (a + 1) = (fun _ => 0) := by rw [← hM36]; exact (m_s_a (of_ne0 (by decide))).trans rw34
  have e43 : M35 a 2 = a + 1 := by rw [← hM36, m_s_s]
  have up44 : up a sh M sh19 M35 := by rw [← hM36]; exact up32.set (by omega)
  clear e26 e27 e28 e29 e30 e31 rw34 up32 hM36
  refine go_aload_n X d_Citations_init_22 rfl rfl ?_
  refine go_bipush (v := 8) X d_Citations_init_23 (by decide) ?_
  refine go_anew (N := 8) X w_cl_Citations_25 (by decide) (by decide) (by omega) (by omega) d_Citations_init_25 ?_
  generalize hs46 : s_up sh19 (a + 2) (.inr (.object "CiteForge$Entry", 8)) = sh45
  generalize hM48 : m_new M35 (a + 2) (fun _ => -1) = M47
  have hu49 : up (a + 2) sh19 M35 sh45 M47 := by rw [← hs46, ← hM48]; exact up.new
  have e50 : sh45 a = some (.inl (4, ts_Citations)) := hu49.s (by omega) e24
  have e51 : sh45 w = some (.inr (.int, 10)) := hu49.s (by omega) e25
  have e52 : sh45 (a + 1) = some (.inr (.long, 10)) := hu49.s (by omega) e33
  have e53 : M47 a 3 = 0 := hu49.m (by omega) e37
  have e54 : M47 a 4 < 0 := hu49.n (by omega) e38
  have e55 : M47 a 5 = 0 := hu49.m (by omega) e39
  have e56 : M47 a 0 = s := hu49.m (by omega) e40
  have e57 : M47 a 1 = w := hu49.m (by omega) e41
  have e58 : M47 a 2 = a + 1 := hu49.m (by omega) e43
  have rw59 : M47 (a + 1) = (fun _ => 0) := hu49.r (by omega) rw42
  have up60 : up a sh M sh45 M47 := up44.tr hu49 (by omega)
  clear e24 e25 e33 e37 e38 e39 e40 e41 e43 rw42
  have e61 : sh45 (a + 2) = some (.inr (.object "CiteForge$Entry", 8)) := by rw [← hs46, s_up_s]
  clear hs46 hM48 hu49
  refine go_kn (k' := 2) (n' := 18) (sz' := a + 3) (by omega) (by omega) (by omega) ?_
  refine go_putF (x := (a + 2)) (v := vr (a + 2)) X f_Citations_27 rfl e50 rfl d_Citations_init_28 (s_varr rfl (by omega)) rfl rfl f_Citations_27w ?_
  generalize hM63 : m_s M47 a 4 (a + 2) = M62
  have e64 : M62 a 3 = 0 := by rw [← hM63]; exact (m_s_n (fun q => absurd q.2 (by decide))).trans e53
  have e65 : M62 a 5 = 0 := by rw [← hM63]; exact (m_s_n (fun q => absurd q.2 (by decide))).trans e55
  have e66 : M62 a 0 = s := by rw [← hM63]; exact (m_s_n (fun q => absurd q.2 (by decide))).trans e56
  have e67 : M62 a 1 = w := by rw [← hM63]; exact (m_s_n (fun q => absurd q.2 (by decide))).trans e57
  have e68 : M62 a 2 = a + 1 := by rw [← hM63]; exact (m_s_n (fun q => absurd q.2 (by decide))).trans e58
  have rw69 : M62 (a + 1) = (fun _ => 0) := by rw [← hM63]; exact (m_s_a (of_ne0 (by decide))).trans rw59
  have e70 : M62 a 4 = a + 2 := by rw [← hM63, m_s_s]
  have up71 : up a sh M sh45 M62 := by rw [← hM63]; exact up60.set (by omega)
  clear e53 e54 e55 e56 e57 e58 rw59 up60 hM63
  refine go_vret X d_Citations_init_31 rfl (by omega) (by omega) ?_
  exact ⟨rfl, rfl, up71, ⟨e50, e52, e61, e51, e66, e67, e68, e70, e64, e65, by decide, by decide, h0, hw0.1, hw0.2, hs0, rw69, fun _ => (by decide : rL 0), fun i h1 h2 => absurd h2 (by omega)⟩⟩
set_option maxHeartbeats 4000000 in
set_option maxRecDepth 100000 in
theorem c_Page_init (l : Launch) (D : va_G) {sh : s_S} {M : s_M} {sz a : Int} (hs : sh a = some (.inl (8, ts_Page))) (hM : M a = (fun j => if j = 0 ∨ j = 1 then -1 else 0)) (h0 : 0 ≤ a) (hz : sz = a + 1) : Sp l D y_Page_init prog_6_method_1_code 1 none 3 3 206 [vr a] sh M sz (fun v sh' M' sz' => v = none ∧ sz' = a + 4 ∧ up a sh M sh' M' ∧ pg0 sh' M' a 0 []) := by
  subst hz
  have hup := up.rf (a := a) (sh := sh) (M := M)
  have d0 : M a 0 < 0 := by rw [hM]; decide
  have d1 : M a 1 < 0 := by rw [hM]; decide
  have d2 : M a 2 = 0 := by rw [hM]; decide
  refine Sp.ofGo (own := "CiteForge$Page") (nm := "<init>") (by decide) rfl rfl (Nat.le_of_ble_eq_true rfl) (lv := [(0, vr a)]) rfl ?_
  intro g X
  refine go_aload_n X d_Page_init_0 rfl rfl ?_
  refine go_objInit X w_oi_Page w_oi2 w_oi3 (by omega) (Nat.le_of_ble_eq_true rfl) d_Page_init_1 ?_
  refine go_aload_n X d_Page_init_4 rfl rfl ?_
  refine go_new (ts := ts_Text) (f := (fun j => if j = 0 then -1 else 0)) X cls0_ok w_cl_Page_7 w_in_0 w_ini_0 (by decide) (by decide) (by omega) (by omega) d_Page_init_5 ?_
  generalize hs2 : s_up sh (a + 1) (.inl (0, ts_Text)) = sh1
  generalize hM4 : m_new M (a + 1) (fun j => if j = 0 then -1 else 0) = M3
  have hu5 : up (a + 1) sh M sh1 M3 := by rw [← hs2, ← hM4]; exact up.new
  have e6 : sh1 a = some (.inl (8, ts_Page)) := hu5.s (by omega) hs
  have e7 : M3 a 0 < 0 := hu5.n (by omega) d0
  have e8 : M3 a 1 < 0 := hu5.n (by omega) d1
  have e9 : M3 a 2 = 0 := hu5.m (by omega) d2
  have up10 : up a sh M sh1 M3 := hup.tr hu5 (by omega)
  have e11 : sh1 (a + 1) = some (.inl (0, ts_Text)) := by rw [← hs2, s_up_s]
  have rw12 : M3 (a + 1) = (fun j => if j = 0 then -1 else 0) := by rw [← hM4, m_new_s]
  clear hs2 hM4 hu5
  refine go_kn (k' := 1) (n' := 2) (sz' := a + 2) (by omega) (by omega) (by omega) ?_
  refine go_dup X d_Page_init_8 rfl ?_
  refine go_sipush (v := 180) X d_Page_init_9 (by decide) ?_
  refine go_cI (st2 := []) (r := [vr (a + 1), vr a]) X k_Page_11 (c_Text_init l D e11 rw12 (by omega) (by omega) (N := 180) rfl (by decide)) rfl rfl (by omega) (Nat.le_of_ble_eq_true rfl) d_Page_init_12 (by omega) (by omega) (fun v sh13 M14 sz' hp => ?_)
  obtain ⟨e15, e16, hu17, pd18⟩ := hp
  subst e15
  refine go_kn (k' := 2) (n' := 182) (sz' := a + 3) (by omega) (by omega) (by omega) ?_
  show Go g (2) (182) sh13 M14 (a + 3) 15 [(0, vr a)] [vr (a + 1), vr a]
  have e19 : sh13 a = some (.inl (8, ts_Page)) := hu17.s (by omega) e6
  have e20 : M14 a 0 < 0 := hu17.n (by omega) e7
  have e21 : M14 a 1 < 0 := hu17.n (by omega) e8
  have e22 : M14 a 2 = 0 := hu17.m (by omega) e9
  have up23 : up a sh M sh13 M14 := up10.tr hu17 (by omega)
  clear e11 e6 e7 e8 e9 rw12
  have e24 : sh13 (a + 1) = some (.inl (0, ts_Text)) := pd18.1.1
  clear hu17 e16
  refine go_putF (x := (a + 1)) (v := vr (a + 1)) X f_Page_14 rfl e19 rfl d_Page_init_15 (s_vref rfl (by omega)) rfl rfl f_Page_14w ?_
  generalize hM26 : m_s M14 a 0 (a + 1) = M25
  have e27 : M25 a 1 < 0 := by rw [← hM26, m_s_n (fun q => absurd q.2 (by decide))]; exact e21
  have e28 : M25 a 2 = 0 := by rw [← hM26]; exact (m_s_n (fun q => absurd q.2 (by decide))).trans e22
  have pd29 : tv sh13 M25 (a + 1) 180 [] := by rw [← hM26]; exact pd18.mv (as_set (by omega))
  have e30 : M25 a 0 = a + 1 := by rw [← hM26, m_s_s]
  have up31 : up a sh M sh13 M25 := by rw [← hM26]; exact up23.set (by omega)
  clear e20 e21 e22 pd18 up23 hM26
  refine go_aload_n X d_Page_init_18 rfl rfl ?_
  refine go_bipush (v := 24) X d_Page_init_19 (by decide) ?_
  refine go_anew (N := 24) X w_cl_Page_7 (by decide) (by decide) (by omega) (by omega) d_Page_init_21 ?_
  generalize hs33 : s_up sh13 (a + 3) (.inr (.object "CiteForge$Text", 24)) = sh32
  generalize hM35 : m_new M25 (a + 3) (fun _ => -1) = M34
  have hu36 : up (a + 3) sh13 M25 sh32 M34 := by rw [← hs33, ← hM35]; exact up.new
  have e37 : sh32 a = some (.inl (8, ts_Page)) := hu36.s (by omega) e19
  have e38 : sh32 (a + 1) = some (.inl (0, ts_Text)) := hu36.s (by omega) e24
  have e39 : M34 a 1 < 0 := hu36.n (by omega) e27
  have e40 : M34 a 2 = 0 := hu36.m (by omega) e28
  have e41 : M34 a 0 = a + 1 := hu36.m (by omega) e30
  have pd42 : tv sh32 M34 (a + 1) 180 [] := pd29.mv (hu36.as (by omega))
  have up43 : up a sh M sh32 M34 := up31.tr hu36 (by omega)
  clear e19 e24 e27 e28 e30 pd29
  have e44 : sh32 (a + 3) = some (.inr (.object "CiteForge$Text", 24)) := by rw [← hs33, s_up_s]
  clear hs33 hM35 hu36
  refine go_kn (k' := 3) (n' := 206) (sz' := a + 4) (by omega) (by omega) (by omega) ?_
  refine go_putF (x := (a + 3)) (v := vr (a + 3)) X f_Page_18 rfl e37 rfl d_Page_init_24 (s_varr rfl (by omega)) rfl rfl f_Page_18w ?_
  generalize hM46 : m_s M34 a 1 (a + 3) = M45
  have e47 : M45 a 2 = 0 := by rw [← hM46]; exact (m_s_n (fun q => absurd q.2 (by decide))).trans e40
  have e48 : M45 a 0 = a + 1 := by rw [← hM46]; exact (m_s_n (fun q => absurd q.2 (by decide))).trans e41
  have pd49 : tv sh32 M45 (a + 1) 180 [] := by rw [← hM46]; exact pd42.mv (as_set (by omega))
  have e50 : M45 a 1 = a + 3 := by rw [← hM46, m_s_s]
  have up51 : up a sh M sh32 M45 := by rw [← hM46]; exact up43.set (by omega)
  clear e39 e40 e41 pd42 up43 hM46
  refine go_vret X d_Page_init_27 rfl (by omega) (by omega) ?_
  exact ⟨rfl, rfl, up51, ⟨e37, e44, e48, e50, e47, by decide, h0, pd49⟩⟩
set_option maxHeartbeats 4000000 in
set_option maxRecDepth 100000 in
theorem c_People_init (l : Launch) (D : va_G) {sh : s_S} {M : s_M} {sz a : Int} (hs : sh a = some (.inl (7, ts_People))) (hM : M a = (fun j => if j = 2 ∨ j = 3 ∨ j = 4 ∨ j = 6 then -1 else 0)) (h0 : 0 ≤ a) (hz : sz = a + 1) : Sp l D y_People_init prog_7_method_1_code 1 none 2 4 183 [vr a] sh M sz (fun v sh' M' sz' => v = none ∧ sz' = a + 5 ∧ up a sh M sh' M' ∧ pev sh' M' a) := by
  subst hz
  have hup := up.rf (a := a) (sh := sh) (M := M)
  have d0 : M a 0 = 0 := by rw [hM]; decide
  have d1 : M a 1 = 0 := by rw [hM]; decide
  have d2 : M a 2 < 0 := by rw [hM]; decide
  have d3 : M a 3 < 0 := by rw [hM]; decide
  have d4 : M a 4 < 0 := by rw [hM]; decide
  have d5 : M a 5 = 0 := by rw [hM]; decide
  have d6 : M a 6 < 0 := by rw [hM]; decide
  have d7 : M a 7 = 0 := by rw [hM]; decide
  have d8 : M a 8 = 0 := by rw [hM]; decide
  have d9 : M a 9 = 0 := by rw [hM]; decide
  have d10 : M a 10 = 0 := by rw [hM]; decide
  have d11 : M a 11 = 0 := by rw [hM]; decide
  have d12 : M a 12 = 0 := by rw [hM]; decide
  have d13 : M a 13 = 0 := by rw [hM]; decide
  have d14 : M a 14 = 0 := by rw [hM]; decide
  have d15 : M a 15 = 0 := by rw [hM]; decide
  refine Sp.ofGo (own := "CiteForge$People") (nm := "<init>") (by decide) rfl rfl (Nat.le_of_ble_eq_true rfl) (lv := [(0, vr a)]) rfl ?_
  intro g X
  refine go_aload_n X d_People_init_0 rfl rfl ?_
  refine go_objInit X w_oi_People w_oi2 w_oi3 (by omega) (Nat.le_of_ble_eq_true rfl) d_People_init_1 ?_
  refine go_aload_n X d_People_init_4 rfl rfl ?_
  refine go_bipush (v := 60) X d_People_init_5 (by decide) ?_
  refine go_newa (N := 60) (ty := .int) X w_ac_int rfl (by simp) (by omega) (by omega) (by omega) d_People_init_7 ?_
  generalize hs2 : s_up sh (a + 1) (.inr (.int, 60)) = sh1
  generalize hM4 : m_new M (a + 1) (fun _ => 0) = M3
  have hu5 : up (a + 1) sh M sh1 M3 := by rw [← hs2, ← hM4]; exact up.new
  have e6 : sh1 a = some (.inl (7, ts_People)) := hu5.s (by omega) hs
  have e7 : M3 a 0 = 0 := hu5.m (by omega) d0
  have e8 : M3 a 1 = 0 := hu5.m (by omega) d1
  have e9 : M3 a 2 < 0 := hu5.n (by omega) d2
  have e10 : M3 a 3 < 0 := hu5.n (by omega) d3
  have e11 : M3 a 4 < 0 := hu5.n (by omega) d4
  have e12 : M3 a 5 = 0 := hu5.m (by omega) d5
  have e13 : M3 a 6 < 0 := hu5.n (by omega) d6
  have e14 : M3 a 7 = 0 := hu5.m (by omega) d7
  have e15 : M3 a 8 = 0 := hu5.m (by omega) d8
  have e16 : M3 a 9 = 0 := hu5.m (by omega) d9
  have e17 : M3 a 10 = 0 := hu5.m (by omega) d10
  have e18 : M3 a 11 = 0 := hu5.m (by omega) d11
  have e19 : M3 a 12 = 0 := hu5.m (by omega) d12
  have e20 : M3 a 13 = 0 := hu5.m (by omega) d13
  have e21 : M3 a 14 = 0 := hu5.m (by omega) d14
  have e22 : M3 a 15 = 0 := hu5.m (by omega) d15
  have up23 : up a sh M sh1 M3 := hup.tr hu5 (by omega)
  have e24 : sh1 (a + 1) = some (.inr (.int, 60)) := by rw [← hs2, s_up_s]
  have rw25 : M3 (a + 1) = (fun _ => 0) := by rw [← hM4, m_new_s]
  clear hs2 hM4 hu5
  refine go_kn (k' := 1) (n' := 60) (sz' := a + 2) (by omega) (by omega) (by omega) ?_
  refine go_putF (x := (a + 1)) (v := vr (a + 1)) X f_People_9 rfl e6 rfl d_People_init_9 (s_varr rfl (by omega)) rfl rfl f_People_9w ?_
  generalize hM27 : m_s M3 a 2 (a + 1) = M26
  have e28 : M26 a 0 = 0 := by rw [← hM27]; exact (m_s_n (fun q => absurd q.2 (by decide))).trans e7
  have e29 : M26 a 1 = 0 := by rw [← hM27]; exact (m_s_n (fun q => absurd q.2 (by decide))).trans e8
  have e30 : M26 a 3 < 0 := by rw [← hM27, m_s_n (fun q => absurd q.2 (by decide))]; exact e10
  have e31 : M26 a 4 < 0 := by rw [← hM27, m_s_n (fun q => absurd q.2 (by decide))]; exact e11
  have e32 : M26 a 5 = 0 := by rw [← hM27]; exact (m_s_n (fun q => absurd q.2 (by decide))).trans e12
  have e33 : M26 a 6 < 0 := by rw [← hM27, m_s_n (fun q => absurd q.2 (by decide))]; exact e13
  have e34 : M26 a 7 = 0 := by rw [← hM27]; exact (m_s_n (fun q => absurd q.2 (by decide))).trans e14
  have e35 : M26 a 8 = 0 := by rw [← hM27]; exact (m_s_n (fun q => absurd q.2 (by decide))).trans e15
  have e36 : M26 a 9 = 0 := by rw [← hM27]; exact (m_s_n (fun q => absurd q.2 (by decide))).trans e16
  have e37 : M26 a 10 = 0 := by rw [← hM27]; exact (m_s_n (fun q => absurd q.2 (by decide))).trans e17
  have e38 : M26 a 11 = 0 := by rw [← hM27]; exact (m_s_n (fun q => absurd q.2 (by decide))).trans e18
  have e39 : M26 a 12 = 0 := by rw [← hM27]; exact (m_s_n (fun q => absurd q.2 (by decide))).trans e19
  have e40 : M26 a 13 = 0 := by rw [← hM27]; exact (m_s_n (fun q => absurd q.2 (by decide))).trans e20
  have e41 : M26 a 14 = 0 := by rw [← hM27]; exact (m_s_n (fun q => absurd q.2 (by decide))).trans e21
  have e42 : M26 a 15 = 0 := by rw [← hM27]; exact (m_s_n (fun q => absurd q.2 (by decide))).trans e22
  have rw43 : M26 (a + 1) = (fun _ => 0) := by rw [← hM27]; exact (m_s_a (of_ne0 (by decide))).trans rw25
  have e44 : M26 a 2 = a + 1 := by rw [← hM27, m_s_s]
  have up45 : up a sh M sh1 M26 := by rw [← hM27]; exact up23.set (by omega)
  clear e10 e11 e12 e13 e14 e15 e16 e17 e18 e19 e20 e21 e22 e7 e8 e9 rw25 up23 hM27
  refine go_aload_n X d_People_init_12 rfl rfl ?_
  refine go_bipush (v := 60) X d_People_init_13 (by decide) ?_
  refine go_newa (N := 60) (ty := .int) X w_ac_int rfl (by simp) (by omega) (by omega) (by omega) d_People_init_15 ?_
  generalize hs47 : s_up sh1 (a + 2) (.inr (.int, 60)) = sh46
  generalize hM49 : m_new M26 (a + 2) (fun _ => 0) = M48
  have hu50 : up (a + 2) sh1 M26 sh46 M48 := by rw [← hs47, ← hM49]; exact up.new
  have e51 : sh46 a = some (.inl (7, ts_People)) := hu50.s (by omega) e6
  have e52 : sh46 (a + 1) = some (.inr (.int, 60)) := hu50.s (by omega) e24
  have e53 : M48 a 0 = 0 := hu50.m (by omega) e28
  have e54 : M48 a 1 = 0 := hu50.m (by omega) e29
  have e55 : M48 a 3 < 0 := hu50.n (by omega) e30
  have e56 : M48 a 4 < 0 := hu50.n (by omega) e31
  have e57 : M48 a 5 = 0 := hu50.m (by omega) e32
  have e58 : M48 a 6 < 0 := hu50.n (by omega) e33
  have e59 : M48 a 7 = 0 := hu50.m (by omega) e34
  have e60 : M48 a 8 = 0 := hu50.m (by omega) e35
  have e61 : M48 a 9 = 0 := hu50.m (by omega) e36
  have e62 : M48 a 10 = 0 := hu50.m (by omega) e37
  have e63 : M48 a 11 = 0 := hu50.m (by omega) e38
  have e64 : M48 a 12 = 0 := hu50.m (by omega) e39
  have e65 : M48 a 13 = 0 := hu50.m (by omega) e40
  have e66 : M48 a 14 = 0 := hu50.m (by omega) e41
  have e67 : M48 a 15 = 0 := hu50.m (by omega) e42
  have e68 : M48 a 2 = a + 1 := hu50.m (by omega) e44
  have rw69 : M48 (a + 1) = (fun _ => 0) := hu50.r (by omega) rw43
  have up70 : up a sh M sh46 M48 := up45.tr hu50 (by omega)
  clear e24 e28 e29 e30 e31 e32 e33 e34 e35 e36 e37 e38 e39 e40 e41 e42 e44 e6 rw43
  have e71 : sh46 (a + 2) = some (.inr (.int, 60)) := by rw [← hs47, s_up_s]
  have rw72 : M48 (a + 2) = (fun _ => 0) := by rw [← hM49, m_new_s]
  clear hs47 hM49 hu50
  refine go_kn (k' := 2) (n' := 120) (sz' := a + 3) (by omega) (by omega) (by omega) ?_
  refine go_putF (x := (a + 2)) (v := vr (a + 2)) X f_People_15 rfl e51 rfl d_People_init_17 (s_varr rfl (by omega)) rfl rfl f_People_15w ?_
  generalize hM74 : m_s M48 a 3 (a + 2) = M73
  have e75 : M73 a 0 = 0 := by rw [← hM74]; exact (m_s_n (fun q => absurd q.2 (by decide))).trans e53
  have e76 : M73 a 1 = 0 := by rw [← hM74]; exact (m_s_n (fun q => absurd q.2 (by decide))).trans e54
  have e77 : M73 a 4 < 0 := by rw [← hM74, m_s_n (fun q => absurd q.2 (by decide))]; exact e56
  have e78 : M73 a 5 = 0 := by rw [← hM74]; exact (m_s_n (fun q => absurd q.2 (by decide))).trans e57
  have e79 : M73 a 6 < 0 := by rw [← hM74, m_s_n (fun q => absurd q.2 (by decide))]; exact e58
  have e80 : M73 a 7 = 0 := by rw [← hM74]; exact (m_s_n (fun q => absurd q.2 (by decide))).trans e59
  have e81 : M73 a 8 = 0 := by rw [← hM74]; exact (m_s_n (fun q => absurd q.2 (by decide))).trans e60
  have e82 : M73 a 9 = 0 := by rw [← hM74]; exact (m_s_n (fun q => absurd q.2 (by decide))).trans e61
  have e83 : M73 a 10 = 0 := by rw [← hM74]; exact (m_s_n (fun q => absurd q.2 (by decide))).trans e62
  have e84 : M73 a 11 = 0 := by rw [← hM74]; exact (m_s_n (fun q => absurd q.2 (by decide))).trans e63
  have e85 : M73 a 12 = 0 := by rw [← hM74]; exact (m_s_n (fun q => absurd q.2 (by decide))).trans e64
  have e86 : M73 a 13 = 0 := by rw [← hM74]; exact (m_s_n (fun q => absurd q.2 (by decide))).trans e65
  have e87 : M73 a 14 = 0 := by rw [← hM74]; exact (m_s_n (fun q => absurd q.2 (by decide))).trans e66
  have e88 : M73 a 15 = 0 := by rw [← hM74]; exact (m_s_n (fun q => absurd q.2 (by decide))).trans e67
  have e89 : M73 a 2 = a + 1 := by rw [← hM74]; exact (m_s_n (fun q => absurd q.2 (by decide))).trans e68
  have rw90 : M73 (a + 1) = (fun _ => 0) := by rw [← hM74]; exact (m_s_a (of_ne0 (by decide))).trans rw69
  have rw91 : M73 (a + 2) = (fun _ => 0) := by rw [← hM74]; exact (m_s_a (of_ne0 (by decide))).trans rw72
  have e92 : M73 a 3 = a + 2 := by rw [← hM74, m_s_s]
  have up93 : up a sh M sh46 M73 := by rw [← hM74]; exact up70.set (by omega)
  clear e53 e54 e55 e56 e57 e58 e59 e60 e61 e62 e63 e64 e65 e66 e67 e68 rw69 rw72 up70 hM74
  refine go_aload_n X d_People_init_20 rfl rfl ?_
  refine go_bipush (v := 60) X d_People_init_21 (by decide) ?_
  refine go_newa (N := 60) (ty := .boolean) X w_ac_boolean rfl (by simp) (by omega) (by omega) (by omega) d_People_init_23 ?_
  generalize hs95 : s_up sh46 (a + 3) (.inr (.boolean, 60)) = sh94
  generalize hM97 : m_new M73 (a + 3) (fun _ => 0) = M96
  have hu98 : up (a + 3) sh46 M73 sh94 M96 := by rw [← hs95, ← hM97]; exact up.new
  have e99 : sh94 a = some (.inl (7, ts_People)) := hu98.s (by omega) e51
  have e100 : sh94 (a + 1) = some (.inr (.int, 60)) := hu98.s (by omega) e52
  have e101 : sh94 (a + 2) = some (.inr (.int, 60)) := hu98.s (by omega) e71
  have e102 : M96 a 0 = 0 := hu98.m (by omega) e75
  have e103 : M96 a 1 = 0 := hu98.m (by omega) e76
  have e104 : M96 a 4 < 0 := hu98.n (by omega) e77
  have e105 : M96 a 5 = 0 := hu98.m (by omega) e78
  have e106 : M96 a 6 < 0 := hu98.n (by omega) e79
  have e107 : M96 a 7 = 0 := hu98.m (by omega) e80
  have e108 : M96 a 8 = 0 := hu98.m (by omega) e81
  have e109 : M96 a 9 = 0 := hu98.m (by omega) e82
  have e110 : M96 a 10 = 0 := hu98.m (by omega) e83
  have e111 : M96 a 11 = 0 := hu98.m (by omega) e84
  have e112 : M96 a 12 = 0 := hu98.m (by omega) e85
  have e113 : M96 a 13 = 0 := hu98.m (by omega) e86
  have e114 : M96 a 14 = 0 := hu98.m (by omega) e87
  have e115 : M96 a 15 = 0 := hu98.m (by omega) e88
  have e116 : M96 a 2 = a + 1 := hu98.m (by omega) e89
  have e117 : M96 a 3 = a + 2 := hu98.m (by omega) e92
  have rw118 : M96 (a + 1) = (fun _ => 0) := hu98.r (by omega) rw90
  have rw119 : M96 (a + 2) = (fun _ => 0) := hu98.r (by omega) rw91
  have up120 : up a sh M sh94 M96 := up93.tr hu98 (by omega)
  clear e51 e52 e71 e75 e76 e77 e78 e79 e80 e81 e82 e83 e84 e85 e86 e87 e88 e89 e92 rw90 rw91
  have e121 : sh94 (a + 3) = some (.inr (.boolean, 60)) := by rw [← hs95, s_up_s]
  have rw122 : M96 (a + 3) = (fun _ => 0) := by rw [← hM97, m_new_s]
  clear hs95 hM97 hu98
  refine go_kn (k' := 3) (n' := 180) (sz' := a + 4) (by omega) (by omega) (by omega) ?_
  refine go_putF (x := (a + 3)) (v := vr (a + 3)) X f_People_18 rfl e99 rfl d_People_init_25 (s_varr rfl (by omega)) rfl rfl f_People_18w ?_
  generalize hM124 : m_s M96 a 4 (a + 3) = M123
  have e125 : M123 a 0 = 0 := by rw [← hM124]; exact (m_s_n (fun q => absurd q.2 (by decide))).trans e102
  have e126 : M123 a 1 = 0 := by rw [← hM124]; exact (m_s_n (fun q => absurd q.2 (by decide))).trans e103
  have e127 : M123 a 5 = 0 := by rw [← hM124]; exact (m_s_n (fun q => absurd q.2 (by decide))).trans e105
  have e128 : M123 a 6 < 0 := by rw [← hM124, m_s_n (fun q => absurd q.2 (by decide))]; exact e106
  have e129 : M123 a 7 = 0 := by rw [← hM124]; exact (m_s_n (fun q => absurd q.2 (by decide))).trans e107
  have e130 : M123 a 8 = 0 := by rw [← hM124]; exact (m_s_n (fun q => absurd q.2 (by decide))).trans e108
  have e131 : M123 a 9 = 0 := by rw [← hM124]; exact (m_s_n (fun q => absurd q.2 (by decide))).trans e109
  have e132 : M123 a 10 = 0 := by rw [← hM124]; exact (m_s_n (fun q => absurd q.2 (by decide))).trans e110
  have e133 : M123 a 11 = 0 := by rw [← hM124]; exact (m_s_n (fun q => absurd q.2 (by decide))).trans e111
  have e134 : M123 a 12 = 0 := by rw [← hM124]; exact (m_s_n (fun q => absurd q.2 (by decide))).trans e112
  have e135 : M123 a 13 = 0 := by rw [← hM124]; exact (m_s_n (fun q => absurd q.2 (by decide))).trans e113
  have e136 : M123 a 14 = 0 := by rw [← hM124]; exact (m_s_n (fun q => absurd q.2 (by decide))).trans e114
  have e137 : M123 a 15 = 0 := by rw [← hM124]; exact (m_s_n (fun q => absurd q.2 (by decide))).trans e115
  have e138 : M123 a 2 = a + 1 := by rw [← hM124]; exact (m_s_n (fun q => absurd q.2 (by decide))).trans e116
  have e139 : M123 a 3 = a + 2 := by rw [← hM124]; exact (m_s_n (fun q => absurd q.2 (by decide))).trans e117
  have rw140 : M123 (a + 1) = (fun _ => 0) := by rw [← hM124]; exact (m_s_a (of_ne0 (by decide))).trans rw118
  have rw141 : M123 (a + 2) = (fun _ => 0) := by rw [← hM124]; exact (m_s_a (of_ne0 (by decide))).trans rw119
  have rw142 : M123 (a + 3) = (fun _ => 0) := by rw [← hM124]; exact (m_s_a (of_ne0 (by decide))).trans rw122
  have e143 : M123 a 4 = a + 3 := by rw [← hM124, m_s_s]
  have up144 : up a sh M sh94 M123 := by rw [← hM124]; exact up120.set (by omega)
  clear e102 e103 e104 e105 e106 e107 e108 e109 e110 e111 e112 e113 e114 e115 e116 e117 rw118 rw119 rw122 up120 hM124
  refine go_aload_n X d_People_init_28 rfl rfl ?_
  refine go_iconst (v := 3) X d_People_init_29 ?_
  refine go_newa (N := 3) (ty := .int) X w_ac_int rfl (by simp) (by omega) (by omega) (by omega) d_People_init_30 ?_
  generalize hs146 : s_up sh94 (a + 4) (.inr (.int, 3)) = sh145
  generalize hM148 : m_new M123 (a + 4) (fun _ => 0) = M147
  have hu149 : up (a + 4) sh94 M123 sh145 M147 := by rw [← hs146, ← hM148]; exact up.new
  have e150 : sh145 a = some (.inl (7, ts_People)) := hu149.s (by omega) e99
  have e151 : sh145 (a + 1) = some (.inr (.int, 60)) := hu149.s (by omega) e100
  have e152 : sh145 (a + 2) = some (.inr (.int, 60)) := hu149.s (by omega) e101
  have e153 : sh145 (a + 3) = some (.inr (.boolean, 60)) := hu149.s (by omega) e121
  have e154 : M147 a 0 = 0 := hu149.m (by omega) e125
  have e155 : M147 a 1 = 0 := hu149.m (by omega) e126
  have e156 : M147 a 5 = 0 := hu149.m (by omega) e127
  have e157 : M147 a 6 < 0 := hu149.n (by omega) e128
  have e158 : M147 a 7 = 0 := hu149.m (by omega) e129
  have e159 : M147 a 8 = 0 := hu149.m (by omega) e130
  have e160 : M147 a 9 = 0 := hu149.m (by omega) e131
  have e161 : M147 a 10 = 0 := hu149.m (by omega) e132
  have e162 : M147 a 11 = 0 := hu149.m (by omega) e133
  have e163 : M147 a 12 = 0 := hu149.m (by omega) e134
  have e164 : M147 a 13 = 0 := hu149.m (by omega) e135
  have e165 : M147 a 14 = 0 := hu149.m (by omega) e136
  have e166 : M147 a 15 = 0 := hu149.m (by omega) e137
  have e167 : M147 a 2 = a + 1 := hu149.m (by omega) e138
  have e168 : M147 a 3 = a + 2 := hu149.m (by omega) e139
  have e169 : M147 a 4 = a + 3 := hu149.m (by omega) e143
  have rw170 : M147 (a + 1) = (fun _ => 0) := hu149.r (by omega) rw140
  have rw171 : M147 (a + 2) = (fun _ => 0) := hu149.r (by omega) rw141
  have rw172 : M147 (a + 3) = (fun _ => 0) := hu149.r (by omega) rw142
  have up173 : up a sh M sh145 M147 := up144.tr hu149 (by omega)
  clear e100 e101 e121 e125 e126 e127 e128 e129 e130 e131 e132 e133 e134 e135 e136 e137 e138 e139 e143 e99 rw140 rw141 rw142
  have e174 : sh145 (a + 4) = some (.inr (.int, 3)) := by rw [← hs146, s_up_s]
  have rw175 : M147 (a + 4) = (fun _ => 0) := by rw [← hM148, m_new_s]
  clear hs146 hM148 hu149
  refine go_kn (k' := 4) (n' := 183) (sz' := a + 5) (by omega) (by omega) (by omega) ?_
  refine go_putF (x := (a + 4)) (v := vr (a + 4)) X f_People_22 rfl e150 rfl d_People_init_32 (s_varr rfl (by omega)) rfl rfl f_People_22w ?_
  generalize hM177 : m_s M147 a 6 (a + 4) = M176
  have e178 : M176 a 0 = 0 := by rw [← hM177]; exact (m_s_n (fun q => absurd q.2 (by decide))).trans e154
  have e179 : M176 a 1 = 0 := by rw [← hM177]; exact (m_s_n (fun q => absurd q.2 (by decide))).trans e155
  have e180 : M176 a 5 = 0 := by rw [← hM177]; exact (m_s_n (fun q => absurd q.2 (by decide))).trans e156
  have e181 : M176 a 7 = 0 := by rw [← hM177]; exact (m_s_n (fun q => absurd q.2 (by decide))).trans e158
  have e182 : M176 a 8 = 0 := by rw [← hM177]; exact (m_s_n (fun q => absurd q.2 (by decide))).trans e159
  have e183 : M176 a 9 = 0 := by rw [← hM177]; exact (m_s_n (fun q => absurd q.2 (by decide))).trans e160
  have e184 : M176 a 10 = 0 := by rw [← hM177]; exact (m_s_n (fun q => absurd q.2 (by decide))).trans e161
  have e185 : M176 a 11 = 0 := by rw [← hM177]; exact (m_s_n (fun q => absurd q.2 (by decide))).trans e162
  have e186 : M176 a 12 = 0 := by rw [← hM177]; exact (m_s_n (fun q => absurd q.2 (by decide))).trans e163
  have e187 : M176 a 13 = 0 := by rw [← hM177]; exact (m_s_n (fun q => absurd q.2 (by decide))).trans e164
  have e188 : M176 a 14 = 0 := by rw [← hM177]; exact (m_s_n (fun q => absurd q.2 (by decide))).trans e165
  have e189 : M176 a 15 = 0 := by rw [← hM177]; exact (m_s_n (fun q => absurd q.2 (by decide))).trans e166
  have e190 : M176 a 2 = a + 1 := by rw [← hM177]; exact (m_s_n (fun q => absurd q.2 (by decide))).trans e167
  have e191 : M176 a 3 = a + 2 := by rw [← hM177]; exact (m_s_n (fun q => absurd q.2 (by decide))).trans e168
  have e192 : M176 a 4 = a + 3 := by rw [← hM177]; exact (m_s_n (fun q => absurd q.2 (by decide))).trans e169
  have rw193 : M176 (a + 1) = (fun _ => 0) := by rw [← hM177]; exact (m_s_a (of_ne0 (by decide))).trans rw170
  have rw194 : M176 (a + 2) = (fun _ => 0) := by rw [← hM177]; exact (m_s_a (of_ne0 (by decide))).trans rw171
  have rw195 : M176 (a + 3) = (fun _ => 0) := by rw [← hM177]; exact (m_s_a (of_ne0 (by decide))).trans rw172
  have rw196 : M176 (a + 4) = (fun _ => 0) := by rw [← hM177]; exact (m_s_a (of_ne0 (by decide))).trans rw175
  have e197 : M176 a 6 = a + 4 := by rw [← hM177, m_s_s]
  have up198 : up a sh M sh145 M176 := by rw [← hM177]; exact up173.set (by omega)
  clear e154 e155 e156 e157 e158 e159 e160 e161 e162 e163 e164 e165 e166 e167 e168 e169 rw170 rw171 rw172 rw175 up173 hM177
  refine go_vret X d_People_init_35 rfl (by omega) (by omega) ?_
  exact ⟨rfl, rfl, up198, ⟨e150, e151, e152, e153, e174, e190, e191, e192, e197, h0⟩⟩
set_option maxHeartbeats 4000000 in
set_option maxRecDepth 100000 in
theorem c_Machine_init (l : Launch) (D : va_G) {sh : s_S} {M : s_M} {sz a : Int} (hs : sh a = some (.inl (9, ts_Machine))) (hM : M a = (fun j => if j = 0 ∨ j = 1 ∨ j = 2 ∨ j = 3 ∨ j = 4 ∨ j = 5 ∨ j = 6 ∨ j = 7 ∨ j = 8 ∨ j = 9 ∨ j = 10 ∨ j = 11 ∨ j = 12 ∨ j = 13 ∨ j = 14 ∨ j = 15 then -1 else 0)) (h0 : 0 ≤ a) (hz : sz = a + 1) {s c k g_ w : Int} (ha : (0 ≤ s ∧ 0 ≤ c) ∧ (0 ≤ k ∧ 0 ≤ g_) ∧ 0 ≤ w) : Sp l D y_Machine_init prog_5_method_1_code 6 none 4 21 813 [vr a, vr s, vr c, vr k, vr g_, vr w] sh M sz (fun v sh' M' sz' => v = none ∧ sz' = a + 22 ∧ up a sh M sh' M' ∧ mcx sh' M' a s c k g_ w (fun _ => 0) (fun _ => 0) (fun _ => 0) (fun _ => 0) [] [] [] (0, 0, []) (0, 0, [])) := by
  subst hz
  have hup := up.rf (a := a) (sh := sh) (M := M)
  have d0 : M a 0 < 0 := by rw [hM]; decide
  have d1 : M a 1 < 0 := by rw [hM]; decide
  have d2 : M a 2 < 0 := by rw [hM]; decide
  have d3 : M a 3 < 0 := by rw [hM]; decide
  have d4 : M a 4 < 0 := by rw [hM]; decide
  have d5 : M a 5 < 0 := by rw [hM]; decide
  have d6 : M a 6 < 0 := by rw [hM]; decide
  have d7 : M a 7 < 0 := by rw [hM]; decide
  have d8 : M a 8 < 0 := by rw [hM]; decide
  have d9 : M a 9 < 0 := by rw [hM]; decide
  have d10 : M a 10 < 0 := by rw [hM]; decide
  have d11 : M a 11 < 0 := by rw [hM]; decide
  have d12 : M a 12 < 0 := by rw [hM]; decide
  have d13 : M a 13 < 0 := by rw [hM]; decide
  have d14 : M a 14 < 0 := by rw [hM]; decide
  have d15 : M a 15 < 0 := by rw [hM]; decide
  have d16 : M a 16 = 0 := by rw [hM]; decide
  refine Sp.ofGo (own := "CiteForge$Machine") (nm := "<init>") (by decide) rfl rfl (Nat.le_of_ble_eq_true rfl) (lv := [(0, vr a), (1, vr s), (2, vr c), (3, vr k), (4, vr g_), (5, vr w)]) rfl ?_
  intro g X
  refine go_aload_n X d_Machine_init_0 rfl rfl ?_
  refine go_objInit X w_oi_Machine w_oi2 w_oi3 (by omega) (Nat.le_of_ble_eq_true rfl) d_Machine_init_1 ?_
  refine go_aload_n X d_Machine_init_4 rfl rfl ?_
  refine go_aload_n X d_Machine_init_5 rfl rfl ?_
  refine go_putF (x := s) (v := vr s) X f_Machine_9 rfl hs rfl d_Machine_init_6 (s_vref rfl (by omega)) rfl rfl f_Machine_9w ?_
  generalize hM2 : m_s M a 0 s = M1
  have e3 : M1 a 1 < 0 := by rw [← hM2, m_s_n (fun q => absurd q.2 (by decide))]; exact d1
  have e4 : M1 a 2 < 0 := by rw [← hM2, m_s_n (fun q => absurd q.2 (by decide))]; exact d2
  have e5 : M1 a 3 < 0 := by rw [← hM2, m_s_n (fun q => absurd q.2 (by decide))]; exact d3
  have e6 : M1 a 4 < 0 := by rw [← hM2, m_s_n (fun q => absurd q.2 (by decide))]; exact d4
  have e7 : M1 a 5 < 0 := by rw [← hM2, m_s_n (fun q => absurd q.2 (by decide))]; exact d5
  have e8 : M1 a 6 < 0 := by rw [← hM2, m_s_n (fun q => absurd q.2 (by decide))]; exact d6
  have e9 : M1 a 7 < 0 := by rw [← hM2, m_s_n (fun q => absurd q.2 (by decide))]; exact d7
  have e10 : M1 a 8 < 0 := by rw [← hM2, m_s_n (fun q => absurd q.2 (by decide))]; exact d8
  have e11 : M1 a 9 < 0 := by rw [← hM2, m_s_n (fun q => absurd q.2 (by decide))]; exact d9
  have e12 : M1 a 10 < 0 := by rw [← hM2, m_s_n (fun q => absurd q.2 (by decide))]; exact d10
  have e13 : M1 a 11 < 0 := by rw [← hM2, m_s_n (fun q => absurd q.2 (by decide))]; exact d11
  have e14 : M1 a 12 < 0 := by rw [← hM2, m_s_n (fun q => absurd q.2 (by decide))]; exact d12
  have e15 : M1 a 13 < 0 := by rw [← hM2, m_s_n (fun q => absurd q.2 (by decide))]; exact d13
  have e16 : M1 a 14 < 0 := by rw [← hM2, m_s_n (fun q => absurd q.2 (by decide))]; exact d14
  have e17 : M1 a 15 < 0 := by rw [← hM2, m_s_n (fun q => absurd q.2 (by decide))]; exact d15
  have e18 : M1 a 16 = 0 := by rw [← hM2]; exact (m_s_n (fun q => absurd q.2 (by decide))).trans d16
  have e19 : M1 a 0 = s := by rw [← hM2, m_s_s]
  have up20 : up a sh M sh M1 := by rw [← hM2]; exact hup.set (by omega)
  clear hM2
  refine go_aload_n X d_Machine_init_9 rfl rfl ?_
  refine go_aload_n X d_Machine_init_10 rfl rfl ?_
  refine go_putF (x := c) (v := vr c) X f_Machine_15 rfl hs rfl d_Machine_init_11 (s_vref rfl (by omega)) rfl rfl f_Machine_15w ?_
  generalize hM22 : m_s M1 a 1 c = M21
  have e23 : M21 a 2 < 0 := by rw [← hM22, m_s_n (fun q => absurd q.2 (by decide))]; exact e4
  have e24 : M21 a 3 < 0 := by rw [← hM22, m_s_n (fun q => absurd q.2 (by decide))]; exact e5
  have e25 : M21 a 4 < 0 := by rw [← hM22, m_s_n (fun q => absurd q.2 (by decide))]; exact e6
  have e26 : M21 a 5 < 0 := by rw [← hM22, m_s_n (fun q => absurd q.2 (by decide))]; exact e7
  have e27 : M21 a 6 < 0 := by rw [← hM22, m_s_n (fun q => absurd q.2 (by decide))]; exact e8
  have e28 : M21 a 7 < 0 := by rw [← hM22, m_s_n (fun q => absurd q.2 (by decide))]; exact e9
  have e29 : M21 a 8 < 0 := by rw [← hM22, m_s_n (fun q => absurd q.2 (by decide))]; exact e10
  have e30 : M21 a 9 < 0 := by rw [← hM22, m_s_n (fun q => absurd q.2 (by decide))]; exact e11
  have e31 : M21 a 10 < 0 := by rw [← hM22, m_s_n (fun q => absurd q.2 (by decide))]; exact e12
  have e32 : M21 a 11 < 0 := by rw [← hM22, m_s_n (fun q => absurd q.2 (by decide))]; exact e13
  have e33 : M21 a 12 < 0 := by rw [← hM22, m_s_n (fun q => absurd q.2 (by decide))]; exact e14
  have e34 : M21 a 13 < 0 := by rw [← hM22, m_s_n (fun q => absurd q.2 (by decide))]; exact e15
  have e35 : M21 a 14 < 0 := by rw [← hM22, m_s_n (fun q => absurd q.2 (by decide))]; exact e16
  have e36 : M21 a 15 < 0 := by rw [← hM22, m_s_n (fun q => absurd q.2 (by decide))]; exact e17
  have e37 : M21 a 16 = 0 := by rw [← hM22]; exact (m_s_n (fun q => absurd q.2 (by decide))).trans e18
  have e38 : M21 a 0 = s := by rw [← hM22]; exact (m_s_n (fun q => absurd q.2 (by decide))).trans e19
  have e39 : M21 a 1 = c := by rw [← hM22, m_s_s]
  have up40 : up a sh M sh M21 := by rw [← hM22]; exact up20.set (by omega)
  clear e10 e11 e12 e13 e14 e15 e16 e17 e18 e19 e3 e4 e5 e6 e7 e8 e9 up20 hM22
  refine go_aload_n X d_Machine_init_14 rfl rfl ?_
  refine go_aload_n X d_Machine_init_15 rfl rfl ?_
  refine go_putF (x := k) (v := vr k) X f_Machine_19 rfl hs rfl d_Machine_init_16 (s_vref rfl (by omega)) rfl rfl f_Machine_19w ?_
  generalize hM42 : m_s M21 a 2 k = M41
  have e43 : M41 a 3 < 0 := by rw [← hM42, m_s_n (fun q => absurd q.2 (by decide))]; exact e24
  have e44 : M41 a 4 < 0 := by rw [← hM42, m_s_n (fun q => absurd q.2 (by decide))]; exact e25
  have e45 : M41 a 5 < 0 := by rw [← hM42, m_s_n (fun q => absurd q.2 (by decide))]; exact e26
  have e46 : M41 a 6 < 0 := by rw [← hM42, m_s_n (fun q => absurd q.2 (by decide))]; exact e27
  have e47 : M41 a 7 < 0 := by rw [← hM42, m_s_n (fun q => absurd q.2 (by decide))]; exact e28
  have e48 : M41 a 8 < 0 := by rw [← hM42, m_s_n (fun q => absurd q.2 (by decide))]; exact e29
  have e49 : M41 a 9 < 0 := by rw [← hM42, m_s_n (fun q => absurd q.2 (by decide))]; exact e30
  have e50 : M41 a 10 < 0 := by rw [← hM42, m_s_n (fun q => absurd q.2 (by decide))]; exact e31
  have e51 : M41 a 11 < 0 := by rw [← hM42, m_s_n (fun q => absurd q.2 (by decide))]; exact e32
  have e52 : M41 a 12 < 0 := by rw [← hM42, m_s_n (fun q => absurd q.2 (by decide))]; exact e33
  have e53 : M41 a 13 < 0 := by rw [← hM42, m_s_n (fun q => absurd q.2 (by decide))]; exact e34
  have e54 : M41 a 14 < 0 := by rw [← hM42, m_s_n (fun q => absurd q.2 (by decide))]; exact e35
  have e55 : M41 a 15 < 0 := by rw [← hM42, m_s_n (fun q => absurd q.2 (by decide))]; exact e36
  have e56 : M41 a 16 = 0 := by rw [← hM42]; exact (m_s_n (fun q => absurd q.2 (by decide))).trans e37
  have e57 : M41 a 0 = s := by rw [← hM42]; exact (m_s_n (fun q => absurd q.2 (by decide))).trans e38
  have e58 : M41 a 1 = c := by rw [← hM42]; exact (m_s_n (fun q => absurd q.2 (by decide))).trans e39
  have e59 : M41 a 2 = k := by rw [← hM42, m_s_s]
  have up60 : up a sh M sh M41 := by rw [← hM42]; exact up40.set (by omega)
  clear e23 e24 e25 e26 e27 e28 e29 e30 e31 e32 e33 e34 e35 e36 e37 e38 e39 up40 hM42
  refine go_aload_n X d_Machine_init_19 rfl rfl ?_
  refine go_aload X d_Machine_init_20 rfl ?_
  refine go_putF (x := g_) (v := vr g_) X f_Machine_23 rfl hs rfl d_Machine_init_22 (s_vref rfl (by omega)) rfl rfl f_Machine_23w ?_
  generalize hM62 : m_s M41 a 3 g_ = M61
  have e63 : M61 a 4 < 0 := by rw [← hM62, m_s_n (fun q => absurd q.2 (by decide))]; exact e44
  have e64 : M61 a 5 < 0 := by rw [← hM62, m_s_n (fun q => absurd q.2 (by decide))]; exact e45
  have e65 : M61 a 6 < 0 := by rw [← hM62, m_s_n (fun q => absurd q.2 (by decide))]; exact e46
  have e66 : M61 a 7 < 0 := by rw [← hM62, m_s_n (fun q => absurd q.2 (by decide))]; exact e47
  have e67 : M61 a 8 < 0 := by rw [← hM62, m_s_n (fun q => absurd q.2 (by decide))]; exact e48
  have e68 : M61 a 9 < 0 := by rw [← hM62, m_s_n (fun q => absurd q.2 (by decide))]; exact e49
  have e69 : M61 a 10 < 0 := by rw [← hM62, m_s_n (fun q => absurd q.2 (by decide))]; exact e50
  have e70 : M61 a 11 < 0 := by rw [← hM62, m_s_n (fun q => absurd q.2 (by decide))]; exact e51
  have e71 : M61 a 12 < 0 := by rw [← hM62, m_s_n (fun q => absurd q.2 (by decide))]; exact e52
  have e72 : M61 a 13 < 0 := by rw [← hM62, m_s_n (fun q => absurd q.2 (by decide))]; exact e53
  have e73 : M61 a 14 < 0 := by rw [← hM62, m_s_n (fun q => absurd q.2 (by decide))]; exact e54
  have e74 : M61 a 15 < 0 := by rw [← hM62, m_s_n (fun q => absurd q.2 (by decide))]; exact e55
  have e75 : M61 a 16 = 0 := by rw [← hM62]; exact (m_s_n (fun q => absurd q.2 (by decide))).trans e56
  have e76 : M61 a 0 = s := by rw [← hM62]; exact (m_s_n (fun q => absurd q.2 (by decide))).trans e57
  have e77 : M61 a 1 = c := by rw [← hM62]; exact (m_s_n (fun q => absurd q.2 (by decide))).trans e58
  have e78 : M61 a 2 = k := by rw [← hM62]; exact (m_s_n (fun q => absurd q.2 (by decide))).trans e59
  have e79 : M61 a 3 = g_ := by rw [← hM62, m_s_s]
  have up80 : up a sh M sh M61 := by rw [← hM62]; exact up60.set (by omega)
  clear e43 e44 e45 e46 e47 e48 e49 e50 e51 e52 e53 e54 e55 e56 e57 e58 e59 up60 hM62
  refine go_aload_n X d_Machine_init_25 rfl rfl ?_
  refine go_aload X d_Machine_init_26 rfl ?_
  refine go_putF (x := w) (v := vr w) X f_Machine_27 rfl hs rfl d_Machine_init_28 (s_varr rfl (by omega)) rfl rfl f_Machine_27w ?_
  generalize hM82 : m_s M61 a 4 w = M81
  have e83 : M81 a 5 < 0 := by rw [← hM82, m_s_n (fun q => absurd q.2 (by decide))]; exact e64
  have e84 : M81 a 6 < 0 := by rw [← hM82, m_s_n (fun q => absurd q.2 (by decide))]; exact e65
  have e85 : M81 a 7 < 0 := by rw [← hM82, m_s_n (fun q => absurd q.2 (by decide))]; exact e66
  have e86 : M81 a 8 < 0 := by rw [← hM82, m_s_n (fun q => absurd q.2 (by decide))]; exact e67
  have e87 : M81 a 9 < 0 := by rw [← hM82, m_s_n (fun q => absurd q.2 (by decide))]; exact e68
  have e88 : M81 a 10 < 0 := by rw [← hM82, m_s_n (fun q => absurd q.2 (by decide))]; exact e69
  have e89 : M81 a 11 < 0 := by rw [← hM82, m_s_n (fun q => absurd q.2 (by decide))]; exact e70
  have e90 : M81 a 12 < 0 := by rw [← hM82, m_s_n (fun q => absurd q.2 (by decide))]; exact e71
  have e91 : M81 a 13 < 0 := by rw [← hM82, m_s_n (fun q => absurd q.2 (by decide))]; exact e72
  have e92 : M81 a 14 < 0 := by rw [← hM82, m_s_n (fun q => absurd q.2 (by decide))]; exact e73
  have e93 : M81 a 15 < 0 := by rw [← hM82, m_s_n (fun q => absurd q.2 (by decide))]; exact e74
  have e94 : M81 a 16 = 0 := by rw [← hM82]; exact (m_s_n (fun q => absurd q.2 (by decide))).trans e75
  have e95 : M81 a 0 = s := by rw [← hM82]; exact (m_s_n (fun q => absurd q.2 (by decide))).trans e76
  have e96 : M81 a 1 = c := by rw [← hM82]; exact (m_s_n (fun q => absurd q.2 (by decide))).trans e77
  have e97 : M81 a 2 = k := by rw [← hM82]; exact (m_s_n (fun q => absurd q.2 (by decide))).trans e78
  have e98 : M81 a 3 = g_ := by rw [← hM82]; exact (m_s_n (fun q => absurd q.2 (by decide))).trans e79
  have e99 : M81 a 4 = w := by rw [← hM82, m_s_s]
  have up100 : up a sh M sh M81 := by rw [← hM82]; exact up80.set (by omega)
  clear e63 e64 e65 e66 e67 e68 e69 e70 e71 e72 e73 e74 e75 e76 e77 e78 e79 up80 hM82
  refine go_aload_n X d_Machine_init_31 rfl rfl ?_
  refine go_new (ts := ts_People) (f := (fun j => if j = 2 ∨ j = 3 ∨ j = 4 ∨ j = 6 then -1 else 0)) X cls7_ok w_cl_Machine_31 w_in_7 w_ini_7 (by decide) (by decide) (by omega) (by omega) d_Machine_init_32 ?_
  generalize hs102 : s_up sh (a + 1) (.inl (7, ts_People)) = sh101
  generalize hM104 : m_new M81 (a + 1) (fun j => if j = 2 ∨ j = 3 ∨ j = 4 ∨ j = 6 then -1 else 0) = M103
  have hu105 : up (a + 1) sh M81 sh101 M103 := by rw [← hs102, ← hM104]; exact up.new
  have e106 : sh101 a = some (.inl (9, ts_Machine)) := hu105.s (by omega) hs
  have e107 : M103 a 5 < 0 := hu105.n (by omega) e83
  have e108 : M103 a 6 < 0 := hu105.n (by omega) e84
  have e109 : M103 a 7 < 0 := hu105.n (by omega) e85
  have e110 : M103 a 8 < 0 := hu105.n (by omega) e86
  have e111 : M103 a 9 < 0 := hu105.n (by omega) e87
  have e112 : M103 a 10 < 0 := hu105.n (by omega) e88
  have e113 : M103 a 11 < 0 := hu105.n (by omega) e89
  have e114 : M103 a 12 < 0 := hu105.n (by omega) e90
  have e115 : M103 a 13 < 0 := hu105.n (by omega) e91
  have e116 : M103 a 14 < 0 := hu105.n (by omega) e92
  have e117 : M103 a 15 < 0 := hu105.n (by omega) e93
  have e118 : M103 a 16 = 0 := hu105.m (by omega) e94
  have e119 : M103 a 0 = s := hu105.m (by omega) e95
  have e120 : M103 a 1 = c := hu105.m (by omega) e96
  have e121 : M103 a 2 = k := hu105.m (by omega) e97
  have e122 : M103 a 3 = g_ := hu105.m (by omega) e98
  have e123 : M103 a 4 = w := hu105.m (by omega) e99
  have up124 : up a sh M sh101 M103 := up100.tr hu105 (by omega)
  clear e83 e84 e85 e86 e87 e88 e89 e90 e91 e92 e93 e94 e95 e96 e97 e98 e99
  have e125 : sh101 (a + 1) = some (.inl (7, ts_People)) := by rw [← hs102, s_up_s]
  have rw126 : M103 (a + 1) = (fun j => if j = 2 ∨ j = 3 ∨ j = 4 ∨ j = 6 then -1 else 0) := by rw [← hM104, m_new_s]
  clear hs102 hM104 hu105
  refine go_kn (k' := 1) (n' := 16) (sz' := a + 2) (by omega) (by omega) (by omega) ?_
  refine go_dup X d_Machine_init_35 rfl ?_
  refine go_cI (st2 := []) (r := [vr (a + 1), vr a]) X k_Machine_33 (c_People_init l D e125 rw126 (by omega) (by omega)) rfl rfl (by omega) (Nat.le_of_ble_eq_true rfl) d_Machine_init_36 (by omega) (by omega) (fun v sh127 M128 sz' hp => ?_)
  obtain ⟨e129, e130, hu131, pd132⟩ := hp
  subst e129
  refine go_kn (k' := 5) (n' := 199) (sz' := a + 6) (by omega) (by omega) (by omega) ?_
  show Go g (5) (199) sh127 M128 (a + 6) 39 [(0, vr a), (1, vr s), (2, vr c), (3, vr k), (4, vr g_), (5, vr w)] [vr (a + 1), vr a]
  have e133 : sh127 a = some (.inl (9, ts_Machine)) := hu131.s (by omega) e106
  have e134 : M128 a 5 < 0 := hu131.n (by omega) e107
  have e135 : M128 a 6 < 0 := hu131.n (by omega) e108
  have e136 : M128 a 7 < 0 := hu131.n (by omega) e109
  have e137 : M128 a 8 < 0 := hu131.n (by omega) e110
  have e138 : M128 a 9 < 0 := hu131.n (by omega) e111
  have e139 : M128 a 10 < 0 := hu131.n (by omega) e112
  have e140 : M128 a 11 < 0 := hu131.n (by omega) e113
  have e141 : M128 a 12 < 0 := hu131.n (by omega) e114
  have e142 : M128 a 13 < 0 := hu131.n (by omega) e115
  have e143 : M128 a 14 < 0 := hu131.n (by omega) e116
  have e144 : M128 a 15 < 0 := hu131.n (by omega) e117
  have e145 : M128 a 16 = 0 := hu131.m (by omega) e118
  have e146 : M128 a 0 = s := hu131.m (by omega) e119
  have e147 : M128 a 1 = c := hu131.m (by omega) e120
  have e148 : M128 a 2 = k := hu131.m (by omega) e121
  have e149 : M128 a 3 = g_ := hu131.m (by omega) e122
  have e150 : M128 a 4 = w := hu131.m (by omega) e123
  have up151 : up a sh M sh127 M128 := up124.tr hu131 (by omega)
  clear e106 e107 e108 e109 e110 e111 e112 e113 e114 e115 e116 e117 e118 e119 e120 e121 e122 e123 e125 rw126
  clear hu131 e130
  refine go_putF (x := (a + 1)) (v := vr (a + 1)) X f_Machine_34 rfl e133 rfl d_Machine_init_39 (s_vref rfl (by omega)) rfl rfl f_Machine_34w ?_
  generalize hM153 : m_s M128 a 5 (a + 1) = M152
  have e154 : M152 a 6 < 0 := by rw [← hM153, m_s_n (fun q => absurd q.2 (by decide))]; exact e135
  have e155 : M152 a 7 < 0 := by rw [← hM153, m_s_n (fun q => absurd q.2 (by decide))]; exact e136
  have e156 : M152 a 8 < 0 := by rw [← hM153, m_s_n (fun q => absurd q.2 (by decide))]; exact e137
  have e157 : M152 a 9 < 0 := by rw [← hM153, m_s_n (fun q => absurd q.2 (by decide))]; exact e138
  have e158 : M152 a 10 < 0 := by rw [← hM153, m_s_n (fun q => absurd q.2 (by decide))]; exact e139
  have e159 : M152 a 11 < 0 := by rw [← hM153, m_s_n (fun q => absurd q.2 (by decide))]; exact e140
  have e160 : M152 a 12 < 0 := by rw [← hM153, m_s_n (fun q => absurd q.2 (by decide))]; exact e141
  have e161 : M152 a 13 < 0 := by rw [← hM153, m_s_n (fun q => absurd q.2 (by decide))]; exact e142
  have e162 : M152 a 14 < 0 := by rw [← hM153, m_s_n (fun q => absurd q.2 (by decide))]; exact e143
  have e163 : M152 a 15 < 0 := by rw [← hM153, m_s_n (fun q => absurd q.2 (by decide))]; exact e144
  have e164 : M152 a 16 = 0 := by rw [← hM153]; exact (m_s_n (fun q => absurd q.2 (by decide))).trans e145
  have e165 : M152 a 0 = s := by rw [← hM153]; exact (m_s_n (fun q => absurd q.2 (by decide))).trans e146
  have e166 : M152 a 1 = c := by rw [← hM153]; exact (m_s_n (fun q => absurd q.2 (by decide))).trans e147
  have e167 : M152 a 2 = k := by rw [← hM153]; exact (m_s_n (fun q => absurd q.2 (by decide))).trans e148
  have e168 : M152 a 3 = g_ := by rw [← hM153]; exact (m_s_n (fun q => absurd q.2 (by decide))).trans e149
  have e169 : M152 a 4 = w := by rw [← hM153]; exact (m_s_n (fun q => absurd q.2 (by decide))).trans e150
  have pd170 : pev sh127 M152 (a + 1) := by rw [← hM153]; exact pd132.mv (as_set (by omega))
  have e171 : M152 a 5 = a + 1 := by rw [← hM153, m_s_s]
  have up172 : up a sh M sh127 M152 := by rw [← hM153]; exact up151.set (by omega)
  clear e134 e135 e136 e137 e138 e139 e140 e141 e142 e143 e144 e145 e146 e147 e148 e149 e150 pd132 up151 hM153
  refine go_aload_n X d_Machine_init_42 rfl rfl ?_
  refine go_sipush (v := 144) X d_Machine_init_43 (by decide) ?_
  refine go_newa (N := 144) (ty := .int) X w_ac_int rfl (by simp) (by omega) (by omega) (by omega) d_Machine_init_46 ?_
  generalize hs174 : s_up sh127 (a + 6) (.inr (.int, 144)) = sh173
  generalize hM176 : m_new M152 (a + 6) (fun _ => 0) = M175
  have hu177 : up (a + 6) sh127 M152 sh173 M175 := by rw [← hs174, ← hM176]; exact up.new
  have e178 : sh173 a = some (.inl (9, ts_Machine)) := hu177.s (by omega) e133
  have e179 : M175 a 6 < 0 := hu177.n (by omega) e154
  have e180 : M175 a 7 < 0 := hu177.n (by omega) e155
  have e181 : M175 a 8 < 0 := hu177.n (by omega) e156
  have e182 : M175 a 9 < 0 := hu177.n (by omega) e157
  have e183 : M175 a 10 < 0 := hu177.n (by omega) e158
  have e184 : M175 a 11 < 0 := hu177.n (by omega) e159
  have e185 : M175 a 12 < 0 := hu177.n (by omega) e160
  have e186 : M175 a 13 < 0 := hu177.n (by omega) e161
  have e187 : M175 a 14 < 0 := hu177.n (by omega) e162
  have e188 : M175 a 15 < 0 := hu177.n (by omega) e163
  have e189 : M175 a 16 = 0 := hu177.m (by omega) e164
  have e190 : M175 a 0 = s := hu177.m (by omega) e165
  have e191 : M175 a 1 = c := hu177.m (by omega) e166
  have e192 : M175 a 2 = k := hu177.m (by omega) e167
  have e193 : M175 a 3 = g_ := hu177.m (by omega) e168
  have e194 : M175 a 4 = w := hu177.m (by omega) e169
  have e195 : M175 a 5 = a + 1 := hu177.m (by omega) e171
  have pd196 : pev sh173 M175 (a + 1) := pd170.mv (hu177.as (by omega))
  have up197 : up a sh M sh173 M175 := up172.tr hu177 (by omega)
  clear e133 e154 e155 e156 e157 e158 e159 e160 e161 e162 e163 e164 e165 e166 e167 e168 e169 e171 pd170
  have e198 : sh173 (a + 6) = some (.inr (.int, 144)) := by rw [← hs174, s_up_s]
  have rw199 : M175 (a + 6) = (fun _ => 0) := by rw [← hM176, m_new_s]
  clear hs174 hM176 hu177
  refine go_kn (k' := 6) (n' := 343) (sz' := a + 7) (by omega) (by omega) (by omega) ?_
  refine go_putF (x := (a + 6)) (v := vr (a + 6)) X f_Machine_38 rfl e178 rfl d_Machine_init_48 (s_varr rfl (by omega)) rfl rfl f_Machine_38w ?_
  generalize hM201 : m_s M175 a 6 (a + 6) = M200
  have e202 : M200 a 7 < 0 := by rw [← hM201, m_s_n (fun q => absurd q.2 (by decide))]; exact e180
  have e203 : M200 a 8 < 0 := by rw [← hM201, m_s_n (fun q => absurd q.2 (by decide))]; exact e181
  have e204 : M200 a 9 < 0 := by rw [← hM201, m_s_n (fun q => absurd q.2 (by decide))]; exact e182
  have e205 : M200 a 10 < 0 := by rw [← hM201, m_s_n (fun q => absurd q.2 (by decide))]; exact e183
  have e206 : M200 a 11 < 0 := by rw [← hM201, m_s_n (fun q => absurd q.2 (by decide))]; exact e184
  have e207 : M200 a 12 < 0 := by rw [← hM201, m_s_n (fun q => absurd q.2 (by decide))]; exact e185
  have e208 : M200 a 13 < 0 := by rw [← hM201, m_s_n (fun q => absurd q.2 (by decide))]; exact e186
  have e209 : M200 a 14 < 0 := by rw [← hM201, m_s_n (fun q => absurd q.2 (by decide))]; exact e187
  have e210 : M200 a 15 < 0 := by rw [← hM201, m_s_n (fun q => absurd q.2 (by decide))]; exact e188
  have e211 : M200 a 16 = 0 := by rw [← hM201]; exact (m_s_n (fun q => absurd q.2 (by decide))).trans e189
  have e212 : M200 a 0 = s := by rw [← hM201]; exact (m_s_n (fun q => absurd q.2 (by decide))).trans e190
  have e213 : M200 a 1 = c := by rw [← hM201]; exact (m_s_n (fun q => absurd q.2 (by decide))).trans e191
  have e214 : M200 a 2 = k := by rw [← hM201]; exact (m_s_n (fun q => absurd q.2 (by decide))).trans e192
  have e215 : M200 a 3 = g_ := by rw [← hM201]; exact (m_s_n (fun q => absurd q.2 (by decide))).trans e193
  have e216 : M200 a 4 = w := by rw [← hM201]; exact (m_s_n (fun q => absurd q.2 (by decide))).trans e194
  have e217 : M200 a 5 = a + 1 := by rw [← hM201]; exact (m_s_n (fun q => absurd q.2 (by decide))).trans e195
  have rw218 : M200 (a + 6) = (fun _ => 0) := by rw [← hM201]; exact (m_s_a (of_ne0 (by decide))).trans rw199
  have pd219 : pev sh173 M200 (a + 1) := by rw [← hM201]; exact pd196.mv (as_set (by omega))
  have e220 : M200 a 6 = a + 6 := by rw [← hM201, m_s_s]
  have up221 : up a sh M sh173 M200 := by rw [← hM201]; exact up197.set (by omega)
  clear e179 e180 e181 e182 e183 e184 e185 e186 e187 e188 e189 e190 e191 e192 e193 e194 e195 pd196 rw199 up197 hM201
  refine go_aload_n X d_Machine_init_51 rfl rfl ?_
  refine go_sipush (v := 144) X d_Machine_init_52 (by decide) ?_
  refine go_newa (N := 144) (ty := .long) X w_ac_long rfl (by simp) (by omega) (by omega) (by omega) d_Machine_init_55 ?_
  generalize hs223 : s_up sh173 (a + 7) (.inr (.long, 144)) = sh222
  generalize hM225 : m_new M200 (a + 7) (fun _ => 0) = M224
  have hu226 : up (a + 7) sh173 M200 sh222 M224 := by rw [← hs223, ← hM225]; exact up.new
  have e227 : sh222 a = some (.inl (9, ts_Machine)) := hu226.s (by omega) e178
  have e228 : sh222 (a + 6) = some (.inr (.int, 144)) := hu226.s (by omega) e198
  have e229 : M224 a 7 < 0 := hu226.n (by omega) e202
  have e230 : M224 a 8 < 0 := hu226.n (by omega) e203
  have e231 : M224 a 9 < 0 := hu226.n (by omega) e204
  have e232 : M224 a 10 < 0 := hu226.n (by omega) e205
  have e233 : M224 a 11 < 0 := hu226.n (by omega) e206
  have e234 : M224 a 12 < 0 := hu226.n (by omega) e207
  have e235 : M224 a 13 < 0 := hu226.n (by omega) e208
  have e236 : M224 a 14 < 0 := hu226.n (by omega) e209
  have e237 : M224 a 15 < 0 := hu226.n (by omega) e210
  have e238 : M224 a 16 = 0 := hu226.m (by omega) e211
  have e239 : M224 a 0 = s := hu226.m (by omega) e212
  have e240 : M224 a 1 = c := hu226.m (by omega) e213
  have e241 : M224 a 2 = k := hu226.m (by omega) e214
  have e242 : M224 a 3 = g_ := hu226.m (by omega) e215
  have e243 : M224 a 4 = w := hu226.m (by omega) e216
  have e244 : M224 a 5 = a + 1 := hu226.m (by omega) e217
  have e245 : M224 a 6 = a + 6 := hu226.m (by omega) e220
  have rw246 : M224 (a + 6) = (fun _ => 0) := hu226.r (by omega) rw218
  have pd247 : pev sh222 M224 (a + 1) := pd219.mv (hu226.as (by omega))
  have up248 : up a sh M sh222 M224 := up221.tr hu226 (by omega)
  clear e178 e198 e202 e203 e204 e205 e206 e207 e208 e209 e210 e211 e212 e213 e214 e215 e216 e217 e220 pd219 rw218
  have e249 : sh222 (a + 7) = some (.inr (.long, 144)) := by rw [← hs223, s_up_s]
  have rw250 : M224 (a + 7) = (fun _ => 0) := by rw [← hM225, m_new_s]
  clear hs223 hM225 hu226
  refine go_kn (k' := 7) (n' := 487) (sz' := a + 8) (by omega) (by omega) (by omega) ?_
  refine go_putF (x := (a + 7)) (v := vr (a + 7)) X f_Machine_41 rfl e227 rfl d_Machine_init_57 (s_varr rfl (by omega)) rfl rfl f_Machine_41w ?_
  generalize hM252 : m_s M224 a 7 (a + 7) = M251
  have e253 : M251 a 8 < 0 := by rw [← hM252, m_s_n (fun q => absurd q.2 (by decide))]; exact e230
  have e254 : M251 a 9 < 0 := by rw [← hM252, m_s_n (fun q => absurd q.2 (by decide))]; exact e231
  have e255 : M251 a 10 < 0 := by rw [← hM252, m_s_n (fun q => absurd q.2 (by decide))]; exact e232
  have e256 : M251 a 11 < 0 := by rw [← hM252, m_s_n (fun q => absurd q.2 (by decide))]; exact e233
  have e257 : M251 a 12 < 0 := by rw [← hM252, m_s_n (fun q => absurd q.2 (by decide))]; exact e234
  have e258 : M251 a 13 < 0 := by rw [← hM252, m_s_n (fun q => absurd q.2 (by decide))]; exact e235
  have e259 : M251 a 14 < 0 := by rw [← hM252, m_s_n (fun q => absurd q.2 (by decide))]; exact e236
  have e260 : M251 a 15 < 0 := by rw [← hM252, m_s_n (fun q => absurd q.2 (by decide))]; exact e237
  have e261 : M251 a 16 = 0 := by rw [← hM252]; exact (m_s_n (fun q => absurd q.2 (by decide))).trans e238
  have e262 : M251 a 0 = s := by rw [← hM252]; exact (m_s_n (fun q => absurd q.2 (by decide))).trans e239
  have e263 : M251 a 1 = c := by rw [← hM252]; exact (m_s_n (fun q => absurd q.2 (by decide))).trans e240
  have e264 : M251 a 2 = k := by rw [← hM252]; exact (m_s_n (fun q => absurd q.2 (by decide))).trans e241
  have e265 : M251 a 3 = g_ := by rw [← hM252]; exact (m_s_n (fun q => absurd q.2 (by decide))).trans e242
  have e266 : M251 a 4 = w := by rw [← hM252]; exact (m_s_n (fun q => absurd q.2 (by decide))).trans e243
  have e267 : M251 a 5 = a + 1 := by rw [← hM252]; exact (m_s_n (fun q => absurd q.2 (by decide))).trans e244
  have e268 : M251 a 6 = a + 6 := by rw [← hM252]; exact (m_s_n (fun q => absurd q.2 (by decide))).trans e245
  have rw269 : M251 (a + 6) = (fun _ => 0) := by rw [← hM252]; exact (m_s_a (of_ne0 (by decide))).trans rw246
  have rw270 : M251 (a + 7) = (fun _ => 0) := by rw [← hM252]; exact (m_s_a (of_ne0 (by decide))).trans rw250
  have pd271 : pev sh222 M251 (a + 1) := by rw [← hM252]; exact pd247.mv (as_set (by omega))
  have e272 : M251 a 7 = a + 7 := by rw [← hM252, m_s_s]
  have up273 : up a sh M sh222 M251 := by rw [← hM252]; exact up248.set (by omega)
  clear e229 e230 e231 e232 e233 e234 e235 e236 e237 e238 e239 e240 e241 e242 e243 e244 e245 pd247 rw246 rw250 up248 hM252
  refine go_aload_n X d_Machine_init_60 rfl rfl ?_
  refine go_bipush (v := 6) X d_Machine_init_61 (by decide) ?_
  refine go_newa (N := 6) (ty := .int) X w_ac_int rfl (by simp) (by omega) (by omega) (by omega) d_Machine_init_63 ?_
  generalize hs275 : s_up sh222 (a + 8) (.inr (.int, 6)) = sh274
  generalize hM277 : m_new M251 (a + 8) (fun _ => 0) = M276
  have hu278 : up (a + 8) sh222 M251 sh274 M276 := by rw [← hs275, ← hM277]; exact up.new
  have e279 : sh274 a = some (.inl (9, ts_Machine)) := hu278.s (by omega) e227
  have e280 : sh274 (a + 6) = some (.inr (.int, 144)) := hu278.s (by omega) e228
  have e281 : sh274 (a + 7) = some (.inr (.long, 144)) := hu278.s (by omega) e249
  have e282 : M276 a 8 < 0 := hu278.n (by omega) e253
  have e283 : M276 a 9 < 0 := hu278.n (by omega) e254
  have e284 : M276 a 10 < 0 := hu278.n (by omega) e255
  have e285 : M276 a 11 < 0 := hu278.n (by omega) e256
  have e286 : M276 a 12 < 0 := hu278.n (by omega) e257
  have e287 : M276 a 13 < 0 := hu278.n (by omega) e258
  have e288 : M276 a 14 < 0 := hu278.n (by omega) e259
  have e289 : M276 a 15 < 0 := hu278.n (by omega) e260
  have e290 : M276 a 16 = 0 := hu278.m (by omega) e261
  have e291 : M276 a 0 = s := hu278.m (by omega) e262
  have e292 : M276 a 1 = c := hu278.m (by omega) e263
  have e293 : M276 a 2 = k := hu278.m (by omega) e264
  have e294 : M276 a 3 = g_ := hu278.m (by omega) e265
  have e295 : M276 a 4 = w := hu278.m (by omega) e266
  have e296 : M276 a 5 = a + 1 := hu278.m (by omega) e267
  have e297 : M276 a 6 = a + 6 := hu278.m (by omega) e268
  have e298 : M276 a 7 = a + 7 := hu278.m (by omega) e272
  have rw299 : M276 (a + 6) = (fun _ => 0) := hu278.r (by omega) rw269
  have rw300 : M276 (a + 7) = (fun _ => 0) := hu278.r (by omega) rw270
  have pd301 : pev sh274 M276 (a + 1) := pd271.mv (hu278.as (by omega))
  have up302 : up a sh M sh274 M276 := up273.tr hu278 (by omega)
  clear e227 e228 e249 e253 e254 e255 e256 e257 e258 e259 e260 e261 e262 e263 e264 e265 e266 e267 e268 e272 pd271 rw269 rw270
  have e303 : sh274 (a + 8) = some (.inr (.int, 6)) := by rw [← hs275, s_up_s]
  have rw304 : M276 (a + 8) = (fun _ => 0) := by rw [← hM277, m_new_s]
  clear hs275 hM277 hu278
  refine go_kn (k' := 8) (n' := 493) (sz' := a + 9) (by omega) (by omega) (by omega) ?_
  refine go_putF (x := (a + 8)) (v := vr (a + 8)) X f_Machine_45 rfl e279 rfl d_Machine_init_65 (s_varr rfl (by omega)) rfl rfl f_Machine_45w ?_
  generalize hM306 : m_s M276 a 8 (a + 8) = M305
  have e307 : M305 a 9 < 0 := by rw [← hM306, m_s_n (fun q => absurd q.2 (by decide))]; exact e283
  have e308 : M305 a 10 < 0 := by rw [← hM306, m_s_n (fun q => absurd q.2 (by decide))]; exact e284
  have e309 : M305 a 11 < 0 := by rw [← hM306, m_s_n (fun q => absurd q.2 (by decide))]; exact e285
  have e310 : M305 a 12 < 0 := by rw [← hM306, m_s_n (fun q => absurd q.2 (by decide))]; exact e286
  have e311 : M305 a 13 < 0 := by rw [← hM306, m_s_n (fun q => absurd q.2 (by decide))]; exact e287
  have e312 : M305 a 14 < 0 := by rw [← hM306, m_s_n (fun q => absurd q.2 (by decide))]; exact e288
  have e313 : M305 a 15 < 0 := by rw [← hM306, m_s_n (fun q => absurd q.2 (by decide))]; exact e289
  have e314 : M305 a 16 = 0 := by rw [← hM306]; exact (m_s_n (fun q => absurd q.2 (by decide))).trans e290
  have e315 : M305 a 0 = s := by rw [← hM306]; exact (m_s_n (fun q => absurd q.2 (by decide))).trans e291
  have e316 : M305 a 1 = c := by rw [← hM306]; exact (m_s_n (fun q => absurd q.2 (by decide))).trans e292
  have e317 : M305 a 2 = k := by rw [← hM306]; exact (m_s_n (fun q => absurd q.2 (by decide))).trans e293
  have e318 : M305 a 3 = g_ := by rw [← hM306]; exact (m_s_n (fun q => absurd q.2 (by decide))).trans e294
  have e319 : M305 a 4 = w := by rw [← hM306]; exact (m_s_n (fun q => absurd q.2 (by decide))).trans e295
  have e320 : M305 a 5 = a + 1 := by rw [← hM306]; exact (m_s_n (fun q => absurd q.2 (by decide))).trans e296
  have e321 : M305 a 6 = a + 6 := by rw [← hM306]; exact (m_s_n (fun q => absurd q.2 (by decide))).trans e297
  have e322 : M305 a 7 = a + 7 := by rw [← hM306]; exact (m_s_n (fun q => absurd q.2 (by decide))).trans e298
  have rw323 : M305 (a + 6) = (fun _ => 0) := by rw [← hM306]; exact (m_s_a (of_ne0 (by decide))).trans rw299
  have rw324 : M305 (a + 7) = (fun _ => 0) := by rw [← hM306]; exact (m_s_a (of_ne0 (by decide))).trans rw300
  have rw325 : M305 (a + 8) = (fun _ => 0) := by rw [← hM306]; exact (m_s_a (of_ne0 (by decide))).trans rw304
  have pd326 : pev sh274 M305 (a + 1) := by rw [← hM306]; exact pd301.mv (as_set (by omega))
  have e327 : M305 a 8 = a + 8 := by rw [← hM306, m_s_s]
  have up328 : up a sh M sh274 M305 := by rw [← hM306]; exact up302.set (by omega)
  clear e282 e283 e284 e285 e286 e287 e288 e289 e290 e291 e292 e293 e294 e295 e296 e297 e298 pd301 rw299 rw300 rw304 up302 hM306
  refine go_aload_n X d_Machine_init_68 rfl rfl ?_
  refine go_iconst (v := 4) X d_Machine_init_69 ?_
  refine go_newa (N := 4) (ty := .int) X w_ac_int rfl (by simp) (by omega) (by omega) (by omega) d_Machine_init_70 ?_
  generalize hs330 : s_up sh274 (a + 9) (.inr (.int, 4)) = sh329
  generalize hM332 : m_new M305 (a + 9) (fun _ => 0) = M331
  have hu333 : up (a + 9) sh274 M305 sh329 M331 := by rw [← hs330, ← hM332]; exact up.new
  have e334 : sh329 a = some (.inl (9, ts_Machine)) := hu333.s (by omega) e279
  have e335 : sh329 (a + 6) = some (.inr (.int, 144)) := hu333.s (by omega) e280
  have e336 : sh329 (a + 7) = some (.inr (.long, 144)) := hu333.s (by omega) e281
  have e337 : sh329 (a + 8) = some (.inr (.int, 6)) := hu333.s (by omega) e303
  have e338 : M331 a 9 < 0 := hu333.n (by omega) e307
  have e339 : M331 a 10 < 0 := hu333.n (by omega) e308
  have e340 : M331 a 11 < 0 := hu333.n (by omega) e309
  have e341 : M331 a 12 < 0 := hu333.n (by omega) e310
  have e342 : M331 a 13 < 0 := hu333.n (by omega) e311
  have e343 : M331 a 14 < 0 := hu333.n (by omega) e312
  have e344 : M331 a 15 < 0 := hu333.n (by omega) e313
  have e345 : M331 a 16 = 0 := hu333.m (by omega) e314
  have e346 : M331 a 0 = s := hu333.m (by omega) e315
  have e347 : M331 a 1 = c := hu333.m (by omega) e316
  have e348 : M331 a 2 = k := hu333.m (by omega) e317
  have e349 : M331 a 3 = g_ := hu333.m (by omega) e318
  have e350 : M331 a 4 = w := hu333.m (by omega) e319
  have e351 : M331 a 5 = a + 1 := hu333.m (by omega) e320
  have e352 : M331 a 6 = a + 6 := hu333.m (by omega) e321
  have e353 : M331 a 7 = a + 7 := hu333.m (by omega) e322
  have e354 : M331 a 8 = a + 8 := hu333.m (by omega) e327
  have rw355 : M331 (a + 6) = (fun _ => 0) := hu333.r (by omega) rw323
  have rw356 : M331 (a + 7) = (fun _ => 0) := hu333.r (by omega) rw324
  have rw357 : M331 (a + 8) = (fun _ => 0) := hu333.r (by omega) rw325
  have pd358 : pev sh329 M331 (a + 1) := pd326.mv (hu333.as (by omega))
  have up359 : up a sh M sh329 M331 := up328.tr hu333 (by omega)
  clear e279 e280 e281 e303 e307 e308 e309 e310 e311 e312 e313 e314 e315 e316 e317 e318 e319 e320 e321 e322 e327 pd326 rw323 rw324 rw325
  have e360 : sh329 (a + 9) = some (.inr (.int, 4)) := by rw [← hs330, s_up_s]
  have rw361 : M331 (a + 9) = (fun _ => 0) := by rw [← hM332, m_new_s]
  clear hs330 hM332 hu333
  refine go_kn (k' := 9) (n' := 497) (sz' := a + 10) (by omega) (by omega) (by omega) ?_
  refine go_putF (x := (a + 9)) (v := vr (a + 9)) X f_Machine_48 rfl e334 rfl d_Machine_init_72 (s_varr rfl (by omega)) rfl rfl f_Machine_48w ?_
  generalize hM363 : m_s M331 a 9 (a + 9) = M362
  have e364 : M362 a 10 < 0 := by rw [← hM363, m_s_n (fun q => absurd q.2 (by decide))]; exact e339
  have e365 : M362 a 11 < 0 := by rw [← hM363, m_s_n (fun q => absurd q.2 (by decide))]; exact e340
  have e366 : M362 a 12 < 0 := by rw [← hM363, m_s_n (fun q => absurd q.2 (by decide))]; exact e341
  have e367 : M362 a 13 < 0 := by rw [← hM363, m_s_n (fun q => absurd q.2 (by decide))]; exact e342
  have e368 : M362 a 14 < 0 := by rw [← hM363, m_s_n (fun q => absurd q.2 (by decide))]; exact e343
  have e369 : M362 a 15 < 0 := by rw [← hM363, m_s_n (fun q => absurd q.2 (by decide))]; exact e344
  have e370 : M362 a 16 = 0 := by rw [← hM363]; exact (m_s_n (fun q => absurd q.2 (by decide))).trans e345
  have e371 : M362 a 0 = s := by rw [← hM363]; exact (m_s_n (fun q => absurd q.2 (by decide))).trans e346
  have e372 : M362 a 1 = c := by rw [← hM363]; exact (m_s_n (fun q => absurd q.2 (by decide))).trans e347
  have e373 : M362 a 2 = k := by rw [← hM363]; exact (m_s_n (fun q => absurd q.2 (by decide))).trans e348
  have e374 : M362 a 3 = g_ := by rw [← hM363]; exact (m_s_n (fun q => absurd q.2 (by decide))).trans e349
  have e375 : M362 a 4 = w := by rw [← hM363]; exact (m_s_n (fun q => absurd q.2 (by decide))).trans e350
  have e376 : M362 a 5 = a + 1 := by rw [← hM363]; exact (m_s_n (fun q => absurd q.2 (by decide))).trans e351
  have e377 : M362 a 6 = a + 6 := by rw [← hM363]; exact (m_s_n (fun q => absurd q.2 (by decide))).trans e352
  have e378 : M362 a 7 = a + 7 := by rw [← hM363]; exact (m_s_n (fun q => absurd q.2 (by decide))).trans e353
  have e379 : M362 a 8 = a + 8 := by rw [← hM363]; exact (m_s_n (fun q => absurd q.2 (by decide))).trans e354
  have rw380 : M362 (a + 6) = (fun _ => 0) := by rw [← hM363]; exact (m_s_a (of_ne0 (by decide))).trans rw355
  have rw381 : M362 (a + 7) = (fun _ => 0) := by rw [← hM363]; exact (m_s_a (of_ne0 (by decide))).trans rw356
  have rw382 : M362 (a + 8) = (fun _ => 0) := by rw [← hM363]; exact (m_s_a (of_ne0 (by decide))).trans rw357
  have rw383 : M362 (a + 9) = (fun _ => 0) := by rw [← hM363]; exact (m_s_a (of_ne0 (by decide))).trans rw361
  have pd384 : pev sh329 M362 (a + 1) := by rw [← hM363]; exact pd358.mv (as_set (by omega))
  have e385 : M362 a 9 = a + 9 := by rw [← hM363, m_s_s]
  have up386 : up a sh M sh329 M362 := by rw [← hM363]; exact up359.set (by omega)
  clear e338 e339 e340 e341 e342 e343 e344 e345 e346 e347 e348 e349 e350 e351 e352 e353 e354 pd358 rw355 rw356 rw357 rw361 up359 hM363
  refine go_aload_n X d_Machine_init_75 rfl rfl ?_
  refine go_new (ts := ts_Text) (f := (fun j => if j = 0 then -1 else 0)) X cls0_ok w_cl_Machine_51 w_in_0 w_ini_0 (by decide) (by decide) (by omega) (by omega) d_Machine_init_76 ?_
  generalize hs388 : s_up sh329 (a + 10) (.inl (0, ts_Text)) = sh387
  generalize hM390 : m_new M362 (a + 10) (fun j => if j = 0 then -1 else 0) = M389
  have hu391 : up (a + 10) sh329 M362 sh387 M389 := by rw [← hs388, ← hM390]; exact up.new
  have e392 : sh387 a = some (.inl (9, ts_Machine)) := hu391.s (by omega) e334
  have e393 : sh387 (a + 6) = some (.inr (.int, 144)) := hu391.s (by omega) e335
  have e394 : sh387 (a + 7) = some (.inr (.long, 144)) := hu391.s (by omega) e336
  have e395 : sh387 (a + 8) = some (.inr (.int, 6)) := hu391.s (by omega) e337
  have e396 : sh387 (a + 9) = some (.inr (.int, 4)) := hu391.s (by omega) e360
  have e397 : M389 a 10 < 0 := hu391.n (by omega) e364
  have e398 : M389 a 11 < 0 := hu391.n (by omega) e365
  have e399 : M389 a 12 < 0 := hu391.n (by omega) e366
  have e400 : M389 a 13 < 0 := hu391.n (by omega) e367
  have e401 : M389 a 14 < 0 := hu391.n (by omega) e368
  have e402 : M389 a 15 < 0 := hu391.n (by omega) e369
  have e403 : M389 a 16 = 0 := hu391.m (by omega) e370
  have e404 : M389 a 0 = s := hu391.m (by omega) e371
  have e405 : M389 a 1 = c := hu391.m (by omega) e372
  have e406 : M389 a 2 = k := hu391.m (by omega) e373
  have e407 : M389 a 3 = g_ := hu391.m (by omega) e374
  have e408 : M389 a 4 = w := hu391.m (by omega) e375
  have e409 : M389 a 5 = a + 1 := hu391.m (by omega) e376
  have e410 : M389 a 6 = a + 6 := hu391.m (by omega) e377
  have e411 : M389 a 7 = a + 7 := hu391.m (by omega) e378
  have e412 : M389 a 8 = a + 8 := hu391.m (by omega) e379
  have e413 : M389 a 9 = a + 9 := hu391.m (by omega) e385
  have rw414 : M389 (a + 6) = (fun _ => 0) := hu391.r (by omega) rw380
  have rw415 : M389 (a + 7) = (fun _ => 0) := hu391.r (by omega) rw381
  have rw416 : M389 (a + 8) = (fun _ => 0) := hu391.r (by omega) rw382
  have rw417 : M389 (a + 9) = (fun _ => 0) := hu391.r (by omega) rw383
  have pd418 : pev sh387 M389 (a + 1) := pd384.mv (hu391.as (by omega))
  have up419 : up a sh M sh387 M389 := up386.tr hu391 (by omega)
  clear e334 e335 e336 e337 e360 e364 e365 e366 e367 e368 e369 e370 e371 e372 e373 e374 e375 e376 e377 e378 e379 e385 pd384 rw380 rw381 rw382 rw383
  have e420 : sh387 (a + 10) = some (.inl (0, ts_Text)) := by rw [← hs388, s_up_s]
  have rw421 : M389 (a + 10) = (fun j => if j = 0 then -1 else 0) := by rw [← hM390, m_new_s]
  clear hs388 hM390 hu391
  refine go_kn (k' := 10) (n' := 499) (sz' := a + 11) (by omega) (by omega) (by omega) ?_
  refine go_dup X d_Machine_init_79 rfl ?_
  refine go_bipush (v := 60) X d_Machine_init_80 (by decide) ?_
  refine go_cI (st2 := []) (r := [vr (a + 10), vr a]) X k_Machine_53 (c_Text_init l D e420 rw421 (by omega) (by omega) (N := 60) rfl (by decide)) rfl rfl (by omega) (Nat.le_of_ble_eq_true rfl) d_Machine_init_82 (by omega) (by omega) (fun v sh422 M423 sz' hp => ?_)
  obtain ⟨e424, e425, hu426, pd427⟩ := hp
  subst e424
  refine go_kn (k' := 11) (n' := 559) (sz' := a + 12) (by omega) (by omega) (by omega) ?_
  show Go g (11) (559) sh422 M423 (a + 12) 85 [(0, vr a), (1, vr s), (2, vr c), (3, vr k), (4, vr g_), (5, vr w)] [vr (a + 10), vr a]
  have e428 : sh422 a = some (.inl (9, ts_Machine)) := hu426.s (by omega) e392
  have e429 : sh422 (a + 6) = some (.inr (.int, 144)) := hu426.s (by omega) e393
  have e430 : sh422 (a + 7) = some (.inr (.long, 144)) := hu426.s (by omega) e394
  have e431 : sh422 (a + 8) = some (.inr (.int, 6)) := hu426.s (by omega) e395
  have e432 : sh422 (a + 9) = some (.inr (.int, 4)) := hu426.s (by omega) e396
  have e433 : M423 a 10 < 0 := hu426.n (by omega) e397
  have e434 : M423 a 11 < 0 := hu426.n (by omega) e398
  have e435 : M423 a 12 < 0 := hu426.n (by omega) e399
  have e436 : M423 a 13 < 0 := hu426.n (by omega) e400
  have e437 : M423 a 14 < 0 := hu426.n (by omega) e401
  have e438 : M423 a 15 < 0 := hu426.n (by omega) e402
  have e439 : M423 a 16 = 0 := hu426.m (by omega) e403
  have e440 : M423 a 0 = s := hu426.m (by omega) e404
  have e441 : M423 a 1 = c := hu426.m (by omega) e405
  have e442 : M423 a 2 = k := hu426.m (by omega) e406
  have e443 : M423 a 3 = g_ := hu426.m (by omega) e407
  have e444 : M423 a 4 = w := hu426.m (by omega) e408
  have e445 : M423 a 5 = a + 1 := hu426.m (by omega) e409
  have e446 : M423 a 6 = a + 6 := hu426.m (by omega) e410
  have e447 : M423 a 7 = a + 7 := hu426.m (by omega) e411
  have e448 : M423 a 8 = a + 8 := hu426.m (by omega) e412
  have e449 : M423 a 9 = a + 9 := hu426.m (by omega) e413
  have rw450 : M423 (a + 6) = (fun _ => 0) := hu426.r (by omega) rw414
  have rw451 : M423 (a + 7) = (fun _ => 0) := hu426.r (by omega) rw415
  have rw452 : M423 (a + 8) = (fun _ => 0) := hu426.r (by omega) rw416
  have rw453 : M423 (a + 9) = (fun _ => 0) := hu426.r (by omega) rw417
  have pd454 : pev sh422 M423 (a + 1) := pd418.mv (hu426.as (by omega))
  have up455 : up a sh M sh422 M423 := up419.tr hu426 (by omega)
  clear e392 e393 e394 e395 e396 e397 e398 e399 e400 e401 e402 e403 e404 e405 e406 e407 e408 e409 e410 e411 e412 e413 e420 pd418 rw414 rw415 rw416 rw417 rw421
  have e456 : sh422 (a + 10) = some (.inl (0, ts_Text)) := pd427.1.1
  clear hu426 e425
  refine go_putF (x := (a + 10)) (v := vr (a + 10)) X f_Machine_56 rfl e428 rfl d_Machine_init_85 (s_vref rfl (by omega)) rfl rfl f_Machine_56w ?_
  generalize hM458 : m_s M423 a 10 (a + 10) = M457
  have e459 : M457 a 11 < 0 := by rw [← hM458, m_s_n (fun q => absurd q.2 (by decide))]; exact e434
  have e460 : M457 a 12 < 0 := by rw [← hM458, m_s_n (fun q => absurd q.2 (by decide))]; exact e435
  have e461 : M457 a 13 < 0 := by rw [← hM458, m_s_n (fun q => absurd q.2 (by decide))]; exact e436
  have e462 : M457 a 14 < 0 := by rw [← hM458, m_s_n (fun q => absurd q.2 (by decide))]; exact e437
  have e463 : M457 a 15 < 0 := by rw [← hM458, m_s_n (fun q => absurd q.2 (by decide))]; exact e438
  have e464 : M457 a 16 = 0 := by rw [← hM458]; exact (m_s_n (fun q => absurd q.2 (by decide))).trans e439
  have e465 : M457 a 0 = s := by rw [← hM458]; exact (m_s_n (fun q => absurd q.2 (by decide))).trans e440
  have e466 : M457 a 1 = c := by rw [← hM458]; exact (m_s_n (fun q => absurd q.2 (by decide))).trans e441
  have e467 : M457 a 2 = k := by rw [← hM458]; exact (m_s_n (fun q => absurd q.2 (by decide))).trans e442
  have e468 : M457 a 3 = g_ := by rw [← hM458]; exact (m_s_n (fun q => absurd q.2 (by decide))).trans e443
  have e469 : M457 a 4 = w := by rw [← hM458]; exact (m_s_n (fun q => absurd q.2 (by decide))).trans e444
  have e470 : M457 a 5 = a + 1 := by rw [← hM458]; exact (m_s_n (fun q => absurd q.2 (by decide))).trans e445
  have e471 : M457 a 6 = a + 6 := by rw [← hM458]; exact (m_s_n (fun q => absurd q.2 (by decide))).trans e446
  have e472 : M457 a 7 = a + 7 := by rw [← hM458]; exact (m_s_n (fun q => absurd q.2 (by decide))).trans e447
  have e473 : M457 a 8 = a + 8 := by rw [← hM458]; exact (m_s_n (fun q => absurd q.2 (by decide))).trans e448
  have e474 : M457 a 9 = a + 9 := by rw [← hM458]; exact (m_s_n (fun q => absurd q.2 (by decide))).trans e449
  have rw475 : M457 (a + 6) = (fun _ => 0) := by rw [← hM458]; exact (m_s_a (of_ne0 (by decide))).trans rw450
  have rw476 : M457 (a + 7) = (fun _ => 0) := by rw [← hM458]; exact (m_s_a (of_ne0 (by decide))).trans rw451
  have rw477 : M457 (a + 8) = (fun _ => 0) := by rw [← hM458]; exact (m_s_a (of_ne0 (by decide))).trans rw452
  have rw478 : M457 (a + 9) = (fun _ => 0) := by rw [← hM458]; exact (m_s_a (of_ne0 (by decide))).trans rw453
  have pd479 : pev sh422 M457 (a + 1) := by rw [← hM458]; exact pd454.mv (as_set (by omega))
  have pd480 : tv sh422 M457 (a + 10) 60 [] := by rw [← hM458]; exact pd427.mv (as_set (by omega))
  have e481 : M457 a 10 = a + 10 := by rw [← hM458, m_s_s]
  have up482 : up a sh M sh422 M457 := by rw [← hM458]; exact up455.set (by omega)
  clear e433 e434 e435 e436 e437 e438 e439 e440 e441 e442 e443 e444 e445 e446 e447 e448 e449 pd427 pd454 rw450 rw451 rw452 rw453 up455 hM458
  refine go_aload_n X d_Machine_init_88 rfl rfl ?_
  refine go_new (ts := ts_Text) (f := (fun j => if j = 0 then -1 else 0)) X cls0_ok w_cl_Machine_51 w_in_0 w_ini_0 (by decide) (by decide) (by omega) (by omega) d_Machine_init_89 ?_
  generalize hs484 : s_up sh422 (a + 12) (.inl (0, ts_Text)) = sh483
  generalize hM486 : m_new M457 (a + 12) (fun j => if j = 0 then -1 else 0) = M485
  have hu487 : up (a + 12) sh422 M457 sh483 M485 := by rw [← hs484, ← hM486]; exact up.new
  have e488 : sh483 a = some (.inl (9, ts_Machine)) := hu487.s (by omega) e428
  have e489 : sh483 (a + 6) = some (.inr (.int, 144)) := hu487.s (by omega) e429
  have e490 : sh483 (a + 7) = some (.inr (.long, 144)) := hu487.s (by omega) e430
  have e491 : sh483 (a + 8) = some (.inr (.int, 6)) := hu487.s (by omega) e431
  have e492 : sh483 (a + 9) = some (.inr (.int, 4)) := hu487.s (by omega) e432
  have e493 : sh483 (a + 10) = some (.inl (0, ts_Text)) := hu487.s (by omega) e456
  have e494 : M485 a 11 < 0 := hu487.n (by omega) e459
  have e495 : M485 a 12 < 0 := hu487.n (by omega) e460
  have e496 : M485 a 13 < 0 := hu487.n (by omega) e461
  have e497 : M485 a 14 < 0 := hu487.n (by omega) e462
  have e498 : M485 a 15 < 0 := hu487.n (by omega) e463
  have e499 : M485 a 16 = 0 := hu487.m (by omega) e464
  have e500 : M485 a 0 = s := hu487.m (by omega) e465
  have e501 : M485 a 1 = c := hu487.m (by omega) e466
  have e502 : M485 a 2 = k := hu487.m (by omega) e467
  have e503 : M485 a 3 = g_ := hu487.m (by omega) e468
  have e504 : M485 a 4 = w := hu487.m (by omega) e469
  have e505 : M485 a 5 = a + 1 := hu487.m (by omega) e470
  have e506 : M485 a 6 = a + 6 := hu487.m (by omega) e471
  have e507 : M485 a 7 = a + 7 := hu487.m (by omega) e472
  have e508 : M485 a 8 = a + 8 := hu487.m (by omega) e473
  have e509 : M485 a 9 = a + 9 := hu487.m (by omega) e474
  have e510 : M485 a 10 = a + 10 := hu487.m (by omega) e481
  have rw511 : M485 (a + 6) = (fun _ => 0) := hu487.r (by omega) rw475
  have rw512 : M485 (a + 7) = (fun _ => 0) := hu487.r (by omega) rw476
  have rw513 : M485 (a + 8) = (fun _ => 0) := hu487.r (by omega) rw477
  have rw514 : M485 (a + 9) = (fun _ => 0) := hu487.r (by omega) rw478
  have pd515 : pev sh483 M485 (a + 1) := pd479.mv (hu487.as (by omega))
  have pd516 : tv sh483 M485 (a + 10) 60 [] := pd480.mv (hu487.as (by omega))
  have up517 : up a sh M sh483 M485 := up482.tr hu487 (by omega)
  clear e428 e429 e430 e431 e432 e456 e459 e460 e461 e462 e463 e464 e465 e466 e467 e468 e469 e470 e471 e472 e473 e474 e481 pd479 pd480 rw475 rw476 rw477 rw478
  have e518 : sh483 (a + 12) = some (.inl (0, ts_Text)) := by rw [← hs484, s_up_s]
  have rw519 : M485 (a + 12) = (fun j => if j = 0 then -1 else 0) := by rw [← hM486, m_new_s]
  clear hs484 hM486 hu487
  refine go_kn (k' := 12) (n' := 561) (sz' := a + 13) (by omega) (by omega) (by omega) ?_
  refine go_dup X d_Machine_init_92 rfl ?_
  refine go_bipush (v := 60) X d_Machine_init_93 (by decide) ?_
  refine go_cI (st2 := []) (r := [vr (a + 12), vr a]) X k_Machine_53 (c_Text_init l D e518 rw519 (by omega) (by omega) (N := 60) rfl (by decide)) rfl rfl (by omega) (Nat.le_of_ble_eq_true rfl) d_Machine_init_95 (by omega) (by omega) (fun v sh520 M521 sz' hp => ?_)
  obtain ⟨e522, e523, hu524, pd525⟩ := hp
  subst e522
  refine go_kn (k' := 13) (n' := 621) (sz' := a + 14) (by omega) (by omega) (by omega) ?_
  show Go g (13) (621) sh520 M521 (a + 14) 98 [(0, vr a), (1, vr s), (2, vr c), (3, vr k), (4, vr g_), (5, vr w)] [vr (a + 12), vr a]
  have e526 : sh520 a = some (.inl (9, ts_Machine)) := hu524.s (by omega) e488
  have e527 : sh520 (a + 6) = some (.inr (.int, 144)) := hu524.s (by omega) e489
  have e528 : sh520 (a + 7) = some (.inr (.long, 144)) := hu524.s (by omega) e490
  have e529 : sh520 (a + 8) = some (.inr (.int, 6)) := hu524.s (by omega) e491
  have e530 : sh520 (a + 9) = some (.inr (.int, 4)) := hu524.s (by omega) e492
  have e531 : sh520 (a + 10) = some (.inl (0, ts_Text)) := hu524.s (by omega) e493
  have e532 : M521 a 11 < 0 := hu524.n (by omega) e494
  have e533 : M521 a 12 < 0 := hu524.n (by omega) e495
  have e534 : M521 a 13 < 0 := hu524.n (by omega) e496
  have e535 : M521 a 14 < 0 := hu524.n (by omega) e497
  have e536 : M521 a 15 < 0 := hu524.n (by omega) e498
  have e537 : M521 a 16 = 0 := hu524.m (by omega) e499
  have e538 : M521 a 0 = s := hu524.m (by omega) e500
  have e539 : M521 a 1 = c := hu524.m (by omega) e501
  have e540 : M521 a 2 = k := hu524.m (by omega) e502
  have e541 : M521 a 3 = g_ := hu524.m (by omega) e503
  have e542 : M521 a 4 = w := hu524.m (by omega) e504
  have e543 : M521 a 5 = a + 1 := hu524.m (by omega) e505
  have e544 : M521 a 6 = a + 6 := hu524.m (by omega) e506
  have e545 : M521 a 7 = a + 7 := hu524.m (by omega) e507
  have e546 : M521 a 8 = a + 8 := hu524.m (by omega) e508
  have e547 : M521 a 9 = a + 9 := hu524.m (by omega) e509
  have e548 : M521 a 10 = a + 10 := hu524.m (by omega) e510
  have rw549 : M521 (a + 6) = (fun _ => 0) := hu524.r (by omega) rw511
  have rw550 : M521 (a + 7) = (fun _ => 0) := hu524.r (by omega) rw512
  have rw551 : M521 (a + 8) = (fun _ => 0) := hu524.r (by omega) rw513
  have rw552 : M521 (a + 9) = (fun _ => 0) := hu524.r (by omega) rw514
  have pd553 : pev sh520 M521 (a + 1) := pd515.mv (hu524.as (by omega))
  have pd554 : tv sh520 M521 (a + 10) 60 [] := pd516.mv (hu524.as (by omega))
  have up555 : up a sh M sh520 M521 := up517.tr hu524 (by omega)
  clear e488 e489 e490 e491 e492 e493 e494 e495 e496 e497 e498 e499 e500 e501 e502 e503 e504 e505 e506 e507 e508 e509 e510 e518 pd515 pd516 rw511 rw512 rw513 rw514 rw519
  have e556 : sh520 (a + 12) = some (.inl (0, ts_Text)) := pd525.1.1
  clear hu524 e523
  refine go_putF (x := (a + 12)) (v := vr (a + 12)) X f_Machine_60 rfl e526 rfl d_Machine_init_98 (s_vref rfl (by omega)) rfl rfl f_Machine_60w ?_
  generalize hM558 : m_s M521 a 11 (a + 12) = M557
  have e559 : M557 a 12 < 0 := by rw [← hM558, m_s_n (fun q => absurd q.2 (by decide))]; exact e533
  have e560 : M557 a 13 < 0 := by rw [← hM558, m_s_n (fun q => absurd q.2 (by decide))]; exact e534
  have e561 : M557 a 14 < 0 := by rw [← hM558, m_s_n (fun q => absurd q.2 (by decide))]; exact e535
  have e562 : M557 a 15 < 0 := by rw [← hM558, m_s_n (fun q => absurd q.2 (by decide))]; exact e536
  have e563 : M557 a 16 = 0 := by rw [← hM558]; exact (m_s_n (fun q => absurd q.2 (by decide))).trans e537
  have e564 : M557 a 0 = s := by rw [← hM558]; exact (m_s_n (fun q => absurd q.2 (by decide))).trans e538
  have e565 : M557 a 1 = c := by rw [← hM558]; exact (m_s_n (fun q => absurd q.2 (by decide))).trans e539
  have e566 : M557 a 2 = k := by rw [← hM558]; exact (m_s_n (fun q => absurd q.2 (by decide))).trans e540
  have e567 : M557 a 3 = g_ := by rw [← hM558]; exact (m_s_n (fun q => absurd q.2 (by decide))).trans e541
  have e568 : M557 a 4 = w := by rw [← hM558]; exact (m_s_n (fun q => absurd q.2 (by decide))).trans e542
  have e569 : M557 a 5 = a + 1 := by rw [← hM558]; exact (m_s_n (fun q => absurd q.2 (by decide))).trans e543
  have e570 : M557 a 6 = a + 6 := by rw [← hM558]; exact (m_s_n (fun q => absurd q.2 (by decide))).trans e544
  have e571 : M557 a 7 = a + 7 := by rw [← hM558]; exact (m_s_n (fun q => absurd q.2 (by decide))).trans e545
  have e572 : M557 a 8 = a + 8 := by rw [← hM558]; exact (m_s_n (fun q => absurd q.2 (by decide))).trans e546
  have e573 : M557 a 9 = a + 9 := by rw [← hM558]; exact (m_s_n (fun q => absurd q.2 (by decide))).trans e547
  have e574 : M557 a 10 = a + 10 := by rw [← hM558]; exact (m_s_n (fun q => absurd q.2 (by decide))).trans e548
  have rw575 : M557 (a + 6) = (fun _ => 0) := by rw [← hM558]; exact (m_s_a (of_ne0 (by decide))).trans rw549
  have rw576 : M557 (a + 7) = (fun _ => 0) := by rw [← hM558]; exact (m_s_a (of_ne0 (by decide))).trans rw550
  have rw577 : M557 (a + 8) = (fun _ => 0) := by rw [← hM558]; exact (m_s_a (of_ne0 (by decide))).trans rw551
  have rw578 : M557 (a + 9) = (fun _ => 0) := by rw [← hM558]; exact (m_s_a (of_ne0 (by decide))).trans rw552
  have pd579 : pev sh520 M557 (a + 1) := by rw [← hM558]; exact pd553.mv (as_set (by omega))
  have pd580 : tv sh520 M557 (a + 10) 60 [] := by rw [← hM558]; exact pd554.mv (as_set (by omega))
  have pd581 : tv sh520 M557 (a + 12) 60 [] := by rw [← hM558]; exact pd525.mv (as_set (by omega))
  have e582 : M557 a 11 = a + 12 := by rw [← hM558, m_s_s]
  have up583 : up a sh M sh520 M557 := by rw [← hM558]; exact up555.set (by omega)
  clear e532 e533 e534 e535 e536 e537 e538 e539 e540 e541 e542 e543 e544 e545 e546 e547 e548 pd525 pd553 pd554 rw549 rw550 rw551 rw552 up555 hM558
  refine go_aload_n X d_Machine_init_101 rfl rfl ?_
  refine go_new (ts := ts_Text) (f := (fun j => if j = 0 then -1 else 0)) X cls0_ok w_cl_Machine_51 w_in_0 w_ini_0 (by decide) (by decide) (by omega) (by omega) d_Machine_init_102 ?_
  generalize hs585 : s_up sh520 (a + 14) (.inl (0, ts_Text)) = sh584
  generalize hM587 : m_new M557 (a + 14) (fun j => if j = 0 then -1 else 0) = M586
  have hu588 : up (a + 14) sh520 M557 sh584 M586 := by rw [← hs585, ← hM587]; exact up.new
  have e589 : sh584 a = some (.inl (9, ts_Machine)) := hu588.s (by omega) e526
  have e590 : sh584 (a + 6) = some (.inr (.int, 144)) := hu588.s (by omega) e527
  have e591 : sh584 (a + 7) = some (.inr (.long, 144)) := hu588.s (by omega) e528
  have e592 : sh584 (a + 8) = some (.inr (.int, 6)) := hu588.s (by omega) e529
  have e593 : sh584 (a + 9) = some (.inr (.int, 4)) := hu588.s (by omega) e530
  have e594 : sh584 (a + 10) = some (.inl (0, ts_Text)) := hu588.s (by omega) e531
  have e595 : sh584 (a + 12) = some (.inl (0, ts_Text)) := hu588.s (by omega) e556
  have e596 : M586 a 12 < 0 := hu588.n (by omega) e559
  have e597 : M586 a 13 < 0 := hu588.n (by omega) e560
  have e598 : M586 a 14 < 0 := hu588.n (by omega) e561
  have e599 : M586 a 15 < 0 := hu588.n (by omega) e562
  have e600 : M586 a 16 = 0 := hu588.m (by omega) e563
  have e601 : M586 a 0 = s := hu588.m (by omega) e564
  have e602 : M586 a 1 = c := hu588.m (by omega) e565
  have e603 : M586 a 2 = k := hu588.m (by omega) e566
  have e604 : M586 a 3 = g_ := hu588.m (by omega) e567
  have e605 : M586 a 4 = w := hu588.m (by omega) e568
  have e606 : M586 a 5 = a + 1 := hu588.m (by omega) e569
  have e607 : M586 a 6 = a + 6 := hu588.m (by omega) e570
  have e608 : M586 a 7 = a + 7 := hu588.m (by omega) e571
  have e609 : M586 a 8 = a + 8 := hu588.m (by omega) e572
  have e610 : M586 a 9 = a + 9 := hu588.m (by omega) e573
  have e611 : M586 a 10 = a + 10 := hu588.m (by omega) e574
  have e612 : M586 a 11 = a + 12 := hu588.m (by omega) e582
  have rw613 : M586 (a + 6) = (fun _ => 0) := hu588.r (by omega) rw575
  have rw614 : M586 (a + 7) = (fun _ => 0) := hu588.r (by omega) rw576
  have rw615 : M586 (a + 8) = (fun _ => 0) := hu588.r (by omega) rw577
  have rw616 : M586 (a + 9) = (fun _ => 0) := hu588.r (by omega) rw578
  have pd617 : pev sh584 M586 (a + 1) := pd579.mv (hu588.as (by omega))
  have pd618 : tv sh584 M586 (a + 10) 60 [] := pd580.mv (hu588.as (by omega))
  have pd619 : tv sh584 M586 (a + 12) 60 [] := pd581.mv (hu588.as (by omega))
  have up620 : up a sh M sh584 M586 := up583.tr hu588 (by omega)
  clear e526 e527 e528 e529 e530 e531 e556 e559 e560 e561 e562 e563 e564 e565 e566 e567 e568 e569 e570 e571 e572 e573 e574 e582 pd579 pd580 pd581 rw575 rw576 rw577 rw578
  have e621 : sh584 (a + 14) = some (.inl (0, ts_Text)) := by rw [← hs585, s_up_s]
  have rw622 : M586 (a + 14) = (fun j => if j = 0 then -1 else 0) := by rw [← hM587, m_new_s]
  clear hs585 hM587 hu588
  refine go_kn (k' := 14) (n' := 623) (sz' := a + 15) (by omega) (by omega) (by omega) ?_
  refine go_dup X d_Machine_init_105 rfl ?_
  refine go_bipush (v := 60) X d_Machine_init_106 (by decide) ?_
  refine go_cI (st2 := []) (r := [vr (a + 14), vr a]) X k_Machine_53 (c_Text_init l D e621 rw622 (by omega) (by omega) (N := 60) rfl (by decide)) rfl rfl (by omega) (Nat.le_of_ble_eq_true rfl) d_Machine_init_108 (by omega) (by omega) (fun v sh623 M624 sz' hp => ?_)
  obtain ⟨e625, e626, hu627, pd628⟩ := hp
  subst e625
  refine go_kn (k' := 15) (n' := 683) (sz' := a + 16) (by omega) (by omega) (by omega) ?_
  show Go g (15) (683) sh623 M624 (a + 16) 111 [(0, vr a), (1, vr s), (2, vr c), (3, vr k), (4, vr g_), (5, vr w)] [vr (a + 14), vr a]
  have e629 : sh623 a = some (.inl (9, ts_Machine)) := hu627.s (by omega) e589
  have e630 : sh623 (a + 6) = some (.inr (.int, 144)) := hu627.s (by omega) e590
  have e631 : sh623 (a + 7) = some (.inr (.long, 144)) := hu627.s (by omega) e591
  have e632 : sh623 (a + 8) = some (.inr (.int, 6)) := hu627.s (by omega) e592
  have e633 : sh623 (a + 9) = some (.inr (.int, 4)) := hu627.s (by omega) e593
  have e634 : sh623 (a + 10) = some (.inl (0, ts_Text)) := hu627.s (by omega) e594
  have e635 : sh623 (a + 12) = some (.inl (0, ts_Text)) := hu627.s (by omega) e595
  have e636 : M624 a 12 < 0 := hu627.n (by omega) e596
  have e637 : M624 a 13 < 0 := hu627.n (by omega) e597
  have e638 : M624 a 14 < 0 := hu627.n (by omega) e598
  have e639 : M624 a 15 < 0 := hu627.n (by omega) e599
  have e640 : M624 a 16 = 0 := hu627.m (by omega) e600
  have e641 : M624 a 0 = s := hu627.m (by omega) e601
  have e642 : M624 a 1 = c := hu627.m (by omega) e602
  have e643 : M624 a 2 = k := hu627.m (by omega) e603
  have e644 : M624 a 3 = g_ := hu627.m (by omega) e604
  have e645 : M624 a 4 = w := hu627.m (by omega) e605
  have e646 : M624 a 5 = a + 1 := hu627.m (by omega) e606
  have e647 : M624 a 6 = a + 6 := hu627.m (by omega) e607
  have e648 : M624 a 7 = a + 7 := hu627.m (by omega) e608
  have e649 : M624 a 8 = a + 8 := hu627.m (by omega) e609
  have e650 : M624 a 9 = a + 9 := hu627.m (by omega) e610
  have e651 : M624 a 10 = a + 10 := hu627.m (by omega) e611
  have e652 : M624 a 11 = a + 12 := hu627.m (by omega) e612
  have rw653 : M624 (a + 6) = (fun _ => 0) := hu627.r (by omega) rw613
  have rw654 : M624 (a + 7) = (fun _ => 0) := hu627.r (by omega) rw614
  have rw655 : M624 (a + 8) = (fun _ => 0) := hu627.r (by omega) rw615
  have rw656 : M624 (a + 9) = (fun _ => 0) := hu627.r (by omega) rw616
  have pd657 : pev sh623 M624 (a + 1) := pd617.mv (hu627.as (by omega))
  have pd658 : tv sh623 M624 (a + 10) 60 [] := pd618.mv (hu627.as (by omega))
  have pd659 : tv sh623 M624 (a + 12) 60 [] := pd619.mv (hu627.as (by omega))
  have up660 : up a sh M sh623 M624 := up620.tr hu627 (by omega)
  clear e589 e590 e591 e592 e593 e594 e595 e596 e597 e598 e599 e600 e601 e602 e603 e604 e605 e606 e607 e608 e609 e610 e611 e612 e621 pd617 pd618 pd619 rw613 rw614 rw615 rw616 rw622
  have e661 : sh623 (a + 14) = some (.inl (0, ts_Text)) := pd628.1.1
  clear hu627 e626
  refine go_putF (x := (a + 14)) (v := vr (a + 14)) X f_Machine_63 rfl e629 rfl d_Machine_init_111 (s_vref rfl (by omega)) rfl rfl f_Machine_63w ?_
  generalize hM663 : m_s M624 a 12 (a + 14) = M662
  have e664 : M662 a 13 < 0 := by rw [← hM663, m_s_n (fun q => absurd q.2 (by decide))]; exact e637
  have e665 : M662 a 14 < 0 := by rw [← hM663, m_s_n (fun q => absurd q.2 (by decide))]; exact e638
  have e666 : M662 a 15 < 0 := by rw [← hM663, m_s_n (fun q => absurd q.2 (by decide))]; exact e639
  have e667 : M662 a 16 = 0 := by rw [← hM663]; exact (m_s_n (fun q => absurd q.2 (by decide))).trans e640
  have e668 : M662 a 0 = s := by rw [← hM663]; exact (m_s_n (fun q => absurd q.2 (by decide))).trans e641
  have e669 : M662 a 1 = c := by rw [← hM663]; exact (m_s_n (fun q => absurd q.2 (by decide))).trans e642
  have e670 : M662 a 2 = k := by rw [← hM663]; exact (m_s_n (fun q => absurd q.2 (by decide))).trans e643
  have e671 : M662 a 3 = g_ := by rw [← hM663]; exact (m_s_n (fun q => absurd q.2 (by decide))).trans e644
  have e672 : M662 a 4 = w := by rw [← hM663]; exact (m_s_n (fun q => absurd q.2 (by decide))).trans e645
  have e673 : M662 a 5 = a + 1 := by rw [← hM663]; exact (m_s_n (fun q => absurd q.2 (by decide))).trans e646
  have e674 : M662 a 6 = a + 6 := by rw [← hM663]; exact (m_s_n (fun q => absurd q.2 (by decide))).trans e647
  have e675 : M662 a 7 = a + 7 := by rw [← hM663]; exact (m_s_n (fun q => absurd q.2 (by decide))).trans e648
  have e676 : M662 a 8 = a + 8 := by rw [← hM663]; exact (m_s_n (fun q => absurd q.2 (by decide))).trans e649
  have e677 : M662 a 9 = a + 9 := by rw [← hM663]; exact (m_s_n (fun q => absurd q.2 (by decide))).trans e650
  have e678 : M662 a 10 = a + 10 := by rw [← hM663]; exact (m_s_n (fun q => absurd q.2 (by decide))).trans e651
  have e679 : M662 a 11 = a + 12 := by rw [← hM663]; exact (m_s_n (fun q => absurd q.2 (by decide))).trans e652
  have rw680 : M662 (a + 6) = (fun _ => 0) := by rw [← hM663]; exact (m_s_a (of_ne0 (by decide))).trans rw653
  have rw681 : M662 (a + 7) = (fun _ => 0) := by rw [← hM663]; exact (m_s_a (of_ne0 (by decide))).trans rw654
  have rw682 : M662 (a + 8) = (fun _ => 0) := by rw [← hM663]; exact (m_s_a (of_ne0 (by decide))).trans rw655
  have rw683 : M662 (a + 9) = (fun _ => 0) := by rw [← hM663]; exact (m_s_a (of_ne0 (by decide))).trans rw656
  have pd684 : pev sh623 M662 (a + 1) := by rw [← hM663]; exact pd657.mv (as_set (by omega))
  have pd685 : tv sh623 M662 (a + 10) 60 [] := by rw [← hM663]; exact pd658.mv (as_set (by omega))
  have pd686 : tv sh623 M662 (a + 12) 60 [] := by rw [← hM663]; exact pd659.mv (as_set (by omega))
  have pd687 : tv sh623 M662 (a + 14) 60 [] := by rw [← hM663]; exact pd628.mv (as_set (by omega))
  have e688 : M662 a 12 = a + 14 := by rw [← hM663, m_s_s]
  have up689 : up a sh M sh623 M662 := by rw [← hM663]; exact up660.set (by omega)
  clear e636 e637 e638 e639 e640 e641 e642 e643 e644 e645 e646 e647 e648 e649 e650 e651 e652 pd628 pd657 pd658 pd659 rw653 rw654 rw655 rw656 up660 hM663
  refine go_aload_n X d_Machine_init_114 rfl rfl ?_
  refine go_new (ts := ts_Value) (f := (fun j => if j = 2 then -1 else 0)) X cls5_ok w_cl_Machine_66 w_in_5 w_ini_5 (by decide) (by decide) (by omega) (by omega) d_Machine_init_115 ?_
  generalize hs691 : s_up sh623 (a + 16) (.inl (5, ts_Value)) = sh690
  generalize hM693 : m_new M662 (a + 16) (fun j => if j = 2 then -1 else 0) = M692
  have hu694 : up (a + 16) sh623 M662 sh690 M692 := by rw [← hs691, ← hM693]; exact up.new
  have e695 : sh690 a = some (.inl (9, ts_Machine)) := hu694.s (by omega) e629
  have e696 : sh690 (a + 6) = some (.inr (.int, 144)) := hu694.s (by omega) e630
  have e697 : sh690 (a + 7) = some (.inr (.long, 144)) := hu694.s (by omega) e631
  have e698 : sh690 (a + 8) = some (.inr (.int, 6)) := hu694.s (by omega) e632
  have e699 : sh690 (a + 9) = some (.inr (.int, 4)) := hu694.s (by omega) e633
  have e700 : sh690 (a + 10) = some (.inl (0, ts_Text)) := hu694.s (by omega) e634
  have e701 : sh690 (a + 12) = some (.inl (0, ts_Text)) := hu694.s (by omega) e635
  have e702 : sh690 (a + 14) = some (.inl (0, ts_Text)) := hu694.s (by omega) e661
  have e703 : M692 a 13 < 0 := hu694.n (by omega) e664
  have e704 : M692 a 14 < 0 := hu694.n (by omega) e665
  have e705 : M692 a 15 < 0 := hu694.n (by omega) e666
  have e706 : M692 a 16 = 0 := hu694.m (by omega) e667
  have e707 : M692 a 0 = s := hu694.m (by omega) e668
  have e708 : M692 a 1 = c := hu694.m (by omega) e669
  have e709 : M692 a 2 = k := hu694.m (by omega) e670
  have e710 : M692 a 3 = g_ := hu694.m (by omega) e671
  have e711 : M692 a 4 = w := hu694.m (by omega) e672
  have e712 : M692 a 5 = a + 1 := hu694.m (by omega) e673
  have e713 : M692 a 6 = a + 6 := hu694.m (by omega) e674
  have e714 : M692 a 7 = a + 7 := hu694.m (by omega) e675
  have e715 : M692 a 8 = a + 8 := hu694.m (by omega) e676
  have e716 : M692 a 9 = a + 9 := hu694.m (by omega) e677
  have e717 : M692 a 10 = a + 10 := hu694.m (by omega) e678
  have e718 : M692 a 11 = a + 12 := hu694.m (by omega) e679
  have e719 : M692 a 12 = a + 14 := hu694.m (by omega) e688
  have rw720 : M692 (a + 6) = (fun _ => 0) := hu694.r (by omega) rw680
  have rw721 : M692 (a + 7) = (fun _ => 0) := hu694.r (by omega) rw681
  have rw722 : M692 (a + 8) = (fun _ => 0) := hu694.r (by omega) rw682
  have rw723 : M692 (a + 9) = (fun _ => 0) := hu694.r (by omega) rw683
  have pd724 : pev sh690 M692 (a + 1) := pd684.mv (hu694.as (by omega))
  have pd725 : tv sh690 M692 (a + 10) 60 [] := pd685.mv (hu694.as (by omega))
  have pd726 : tv sh690 M692 (a + 12) 60 [] := pd686.mv (hu694.as (by omega))
  have pd727 : tv sh690 M692 (a + 14) 60 [] := pd687.mv (hu694.as (by omega))
  have up728 : up a sh M sh690 M692 := up689.tr hu694 (by omega)
  clear e629 e630 e631 e632 e633 e634 e635 e661 e664 e665 e666 e667 e668 e669 e670 e671 e672 e673 e674 e675 e676 e677 e678 e679 e688 pd684 pd685 pd686 pd687 rw680 rw681 rw682 rw683
  have e729 : sh690 (a + 16) = some (.inl (5, ts_Value)) := by rw [← hs691, s_up_s]
  have rw730 : M692 (a + 16) = (fun j => if j = 2 then -1 else 0) := by rw [← hM693, m_new_s]
  clear hs691 hM693 hu694
  refine go_kn (k' := 16) (n' := 686) (sz' := a + 17) (by omega) (by omega) (by omega) ?_
  refine go_dup X d_Machine_init_118 rfl ?_
  refine go_cI (st2 := []) (r := [vr (a + 16), vr a]) X k_Machine_68 (c_Value_init l D e729 rw730 (by omega) (by omega)) rfl rfl (by omega) (Nat.le_of_ble_eq_true rfl) d_Machine_init_119 (by omega) (by omega) (fun v sh731 M732 sz' hp => ?_)
  obtain ⟨e733, e734, hu735, pd736⟩ := hp
  subst e733
  refine go_kn (k' := 18) (n' := 748) (sz' := a + 19) (by omega) (by omega) (by omega) ?_
  show Go g (18) (748) sh731 M732 (a + 19) 122 [(0, vr a), (1, vr s), (2, vr c), (3, vr k), (4, vr g_), (5, vr w)] [vr (a + 16), vr a]
  have e737 : sh731 a = some (.inl (9, ts_Machine)) := hu735.s (by omega) e695
  have e738 : sh731 (a + 6) = some (.inr (.int, 144)) := hu735.s (by omega) e696
  have e739 : sh731 (a + 7) = some (.inr (.long, 144)) := hu735.s (by omega) e697
  have e740 : sh731 (a + 8) = some (.inr (.int, 6)) := hu735.s (by omega) e698
  have e741 : sh731 (a + 9) = some (.inr (.int, 4)) := hu735.s (by omega) e699
  have e742 : sh731 (a + 10) = some (.inl (0, ts_Text)) := hu735.s (by omega) e700
  have e743 : sh731 (a + 12) = some (.inl (0, ts_Text)) := hu735.s (by omega) e701
  have e744 : sh731 (a + 14) = some (.inl (0, ts_Text)) := hu735.s (by omega) e702
  have e745 : M732 a 13 < 0 := hu735.n (by omega) e703
  have e746 : M732 a 14 < 0 := hu735.n (by omega) e704
  have e747 : M732 a 15 < 0 := hu735.n (by omega) e705
  have e748 : M732 a 16 = 0 := hu735.m (by omega) e706
  have e749 : M732 a 0 = s := hu735.m (by omega) e707
  have e750 : M732 a 1 = c := hu735.m (by omega) e708
  have e751 : M732 a 2 = k := hu735.m (by omega) e709
  have e752 : M732 a 3 = g_ := hu735.m (by omega) e710
  have e753 : M732 a 4 = w := hu735.m (by omega) e711
  have e754 : M732 a 5 = a + 1 := hu735.m (by omega) e712
  have e755 : M732 a 6 = a + 6 := hu735.m (by omega) e713
  have e756 : M732 a 7 = a + 7 := hu735.m (by omega) e714
  have e757 : M732 a 8 = a + 8 := hu735.m (by omega) e715
  have e758 : M732 a 9 = a + 9 := hu735.m (by omega) e716
  have e759 : M732 a 10 = a + 10 := hu735.m (by omega) e717
  have e760 : M732 a 11 = a + 12 := hu735.m (by omega) e718
  have e761 : M732 a 12 = a + 14 := hu735.m (by omega) e719
  have rw762 : M732 (a + 6) = (fun _ => 0) := hu735.r (by omega) rw720
  have rw763 : M732 (a + 7) = (fun _ => 0) := hu735.r (by omega) rw721
  have rw764 : M732 (a + 8) = (fun _ => 0) := hu735.r (by omega) rw722
  have rw765 : M732 (a + 9) = (fun _ => 0) := hu735.r (by omega) rw723
  have pd766 : pev sh731 M732 (a + 1) := pd724.mv (hu735.as (by omega))
  have pd767 : tv sh731 M732 (a + 10) 60 [] := pd725.mv (hu735.as (by omega))
  have pd768 : tv sh731 M732 (a + 12) 60 [] := pd726.mv (hu735.as (by omega))
  have pd769 : tv sh731 M732 (a + 14) 60 [] := pd727.mv (hu735.as (by omega))
  have up770 : up a sh M sh731 M732 := up728.tr hu735 (by omega)
  clear e695 e696 e697 e698 e699 e700 e701 e702 e703 e704 e705 e706 e707 e708 e709 e710 e711 e712 e713 e714 e715 e716 e717 e718 e719 e729 pd724 pd725 pd726 pd727 rw720 rw721 rw722 rw723 rw730
  have e771 : sh731 (a + 16) = some (.inl (5, ts_Value)) := pd736.1
  clear hu735 e734
  refine go_putF (x := (a + 16)) (v := vr (a + 16)) X f_Machine_69 rfl e737 rfl d_Machine_init_122 (s_vref rfl (by omega)) rfl rfl f_Machine_69w ?_
  generalize hM773 : m_s M732 a 13 (a + 16) = M772
  have e774 : M772 a 14 < 0 := by rw [← hM773, m_s_n (fun q => absurd q.2 (by decide))]; exact e746
  have e775 : M772 a 15 < 0 := by rw [← hM773, m_s_n (fun q => absurd q.2 (by decide))]; exact e747
  have e776 : M772 a 16 = 0 := by rw [← hM773]; exact (m_s_n (fun q => absurd q.2 (by decide))).trans e748
  have e777 : M772 a 0 = s := by rw [← hM773]; exact (m_s_n (fun q => absurd q.2 (by decide))).trans e749
  have e778 : M772 a 1 = c := by rw [← hM773]; exact (m_s_n (fun q => absurd q.2 (by decide))).trans e750
  have e779 : M772 a 2 = k := by rw [← hM773]; exact (m_s_n (fun q => absurd q.2 (by decide))).trans e751
  have e780 : M772 a 3 = g_ := by rw [← hM773]; exact (m_s_n (fun q => absurd q.2 (by decide))).trans e752
  have e781 : M772 a 4 = w := by rw [← hM773]; exact (m_s_n (fun q => absurd q.2 (by decide))).trans e753
  have e782 : M772 a 5 = a + 1 := by rw [← hM773]; exact (m_s_n (fun q => absurd q.2 (by decide))).trans e754
  have e783 : M772 a 6 = a + 6 := by rw [← hM773]; exact (m_s_n (fun q => absurd q.2 (by decide))).trans e755
  have e784 : M772 a 7 = a + 7 := by rw [← hM773]; exact (m_s_n (fun q => absurd q.2 (by decide))).trans e756
  have e785 : M772 a 8 = a + 8 := by rw [← hM773]; exact (m_s_n (fun q => absurd q.2 (by decide))).trans e757
  have e786 : M772 a 9 = a + 9 := by rw [← hM773]; exact (m_s_n (fun q => absurd q.2 (by decide))).trans e758
  have e787 : M772 a 10 = a + 10 := by rw [← hM773]; exact (m_s_n (fun q => absurd q.2 (by decide))).trans e759
  have e788 : M772 a 11 = a + 12 := by rw [← hM773]; exact (m_s_n (fun q => absurd q.2 (by decide))).trans e760
  have e789 : M772 a 12 = a + 14 := by rw [← hM773]; exact (m_s_n (fun q => absurd q.2 (by decide))).trans e761
  have rw790 : M772 (a + 6) = (fun _ => 0) := by rw [← hM773]; exact (m_s_a (of_ne0 (by decide))).trans rw762
  have rw791 : M772 (a + 7) = (fun _ => 0) := by rw [← hM773]; exact (m_s_a (of_ne0 (by decide))).trans rw763
  have rw792 : M772 (a + 8) = (fun _ => 0) := by rw [← hM773]; exact (m_s_a (of_ne0 (by decide))).trans rw764
  have rw793 : M772 (a + 9) = (fun _ => 0) := by rw [← hM773]; exact (m_s_a (of_ne0 (by decide))).trans rw765
  have pd794 : pev sh731 M772 (a + 1) := by rw [← hM773]; exact pd766.mv (as_set (by omega))
  have pd795 : tv sh731 M772 (a + 10) 60 [] := by rw [← hM773]; exact pd767.mv (as_set (by omega))
  have pd796 : tv sh731 M772 (a + 12) 60 [] := by rw [← hM773]; exact pd768.mv (as_set (by omega))
  have pd797 : tv sh731 M772 (a + 14) 60 [] := by rw [← hM773]; exact pd769.mv (as_set (by omega))
  have pd798 : vv sh731 M772 (a + 16) 0 0 [] := by rw [← hM773]; exact pd736.mv (as_set (by omega))
  have e799 : M772 a 13 = a + 16 := by rw [← hM773, m_s_s]
  have up800 : up a sh M sh731 M772 := by rw [← hM773]; exact up770.set (by omega)
  clear e745 e746 e747 e748 e749 e750 e751 e752 e753 e754 e755 e756 e757 e758 e759 e760 e761 pd736 pd766 pd767 pd768 pd769 rw762 rw763 rw764 rw765 up770 hM773
  refine go_aload_n X d_Machine_init_125 rfl rfl ?_
  refine go_new (ts := ts_Value) (f := (fun j => if j = 2 then -1 else 0)) X cls5_ok w_cl_Machine_66 w_in_5 w_ini_5 (by decide) (by decide) (by omega) (by omega) d_Machine_init_126 ?_
  generalize hs802 : s_up sh731 (a + 19) (.inl (5, ts_Value)) = sh801
  generalize hM804 : m_new M772 (a + 19) (fun j => if j = 2 then -1 else 0) = M803
  have hu805 : up (a + 19) sh731 M772 sh801 M803 := by rw [← hs802, ← hM804]; exact up.new
  have e806 : sh801 a = some (.inl (9, ts_Machine)) := hu805.s (by omega) e737
  have e807 : sh801 (a + 6) = some (.inr (.int, 144)) := hu805.s (by omega) e738
  have e808 : sh801 (a + 7) = some (.inr (.long, 144)) := hu805.s (by omega) e739
  have e809 : sh801 (a + 8) = some (.inr (.int, 6)) := hu805.s (by omega) e740
  have e810 : sh801 (a + 9) = some (.inr (.int, 4)) := hu805.s (by omega) e741
  have e811 : sh801 (a + 10) = some (.inl (0, ts_Text)) := hu805.s (by omega) e742
  have e812 : sh801 (a + 12) = some (.inl (0, ts_Text)) := hu805.s (by omega) e743
  have e813 : sh801 (a + 14) = some (.inl (0, ts_Text)) := hu805.s (by omega) e744
  have e814 : sh801 (a + 16) = some (.inl (5, ts_Value)) := hu805.s (by omega) e771
  have e815 : M803 a 14 < 0 := hu805.n (by omega) e774
  have e816 : M803 a 15 < 0 := hu805.n (by omega) e775
  have e817 : M803 a 16 = 0 := hu805.m (by omega) e776
  have e818 : M803 a 0 = s := hu805.m (by omega) e777
  have e819 : M803 a 1 = c := hu805.m (by omega) e778
  have e820 : M803 a 2 = k := hu805.m (by omega) e779
  have e821 : M803 a 3 = g_ := hu805.m (by omega) e780
  have e822 : M803 a 4 = w := hu805.m (by omega) e781
  have e823 : M803 a 5 = a + 1 := hu805.m (by omega) e782
  have e824 : M803 a 6 = a + 6 := hu805.m (by omega) e783
  have e825 : M803 a 7 = a + 7 := hu805.m (by omega) e784
  have e826 : M803 a 8 = a + 8 := hu805.m (by omega) e785
  have e827 : M803 a 9 = a + 9 := hu805.m (by omega) e786
  have e828 : M803 a 10 = a + 10 := hu805.m (by omega) e787
  have e829 : M803 a 11 = a + 12 := hu805.m (by omega) e788
  have e830 : M803 a 12 = a + 14 := hu805.m (by omega) e789
  have e831 : M803 a 13 = a + 16 := hu805.m (by omega) e799
  have rw832 : M803 (a + 6) = (fun _ => 0) := hu805.r (by omega) rw790
  have rw833 : M803 (a + 7) = (fun _ => 0) := hu805.r (by omega) rw791
  have rw834 : M803 (a + 8) = (fun _ => 0) := hu805.r (by omega) rw792
  have rw835 : M803 (a + 9) = (fun _ => 0) := hu805.r (by omega) rw793
  have pd836 : pev sh801 M803 (a + 1) := pd794.mv (hu805.as (by omega))
  have pd837 : tv sh801 M803 (a + 10) 60 [] := pd795.mv (hu805.as (by omega))
  have pd838 : tv sh801 M803 (a + 12) 60 [] := pd796.mv (hu805.as (by omega))
  have pd839 : tv sh801 M803 (a + 14) 60 [] := pd797.mv (hu805.as (by omega))
  have pd840 : vv sh801 M803 (a + 16) 0 0 [] := pd798.mv (hu805.as (by omega))
  have up841 : up a sh M sh801 M803 := up800.tr hu805 (by omega)
  clear e737 e738 e739 e740 e741 e742 e743 e744 e771 e774 e775 e776 e777 e778 e779 e780 e781 e782 e783 e784 e785 e786 e787 e788 e789 e799 pd794 pd795 pd796 pd797 pd798 rw790 rw791 rw792 rw793
  have e842 : sh801 (a + 19) = some (.inl (5, ts_Value)) := by rw [← hs802, s_up_s]
  have rw843 : M803 (a + 19) = (fun j => if j = 2 then -1 else 0) := by rw [← hM804, m_new_s]
  clear hs802 hM804 hu805
  refine go_kn (k' := 19) (n' := 751) (sz' := a + 20) (by omega) (by omega) (by omega) ?_
  refine go_dup X d_Machine_init_129 rfl ?_
  refine go_cI (st2 := []) (r := [vr (a + 19), vr a]) X k_Machine_68 (c_Value_init l D e842 rw843 (by omega) (by omega)) rfl rfl (by omega) (Nat.le_of_ble_eq_true rfl) d_Machine_init_130 (by omega) (by omega) (fun v sh844 M845 sz' hp => ?_)
  obtain ⟨e846, e847, hu848, pd849⟩ := hp
  subst e846
  refine go_kn (k' := 21) (n' := 813) (sz' := a + 22) (by omega) (by omega) (by omega) ?_
  show Go g (21) (813) sh844 M845 (a + 22) 133 [(0, vr a), (1, vr s), (2, vr c), (3, vr k), (4, vr g_), (5, vr w)] [vr (a + 19), vr a]
  have e850 : sh844 a = some (.inl (9, ts_Machine)) := hu848.s (by omega) e806
  have e851 : sh844 (a + 6) = some (.inr (.int, 144)) := hu848.s (by omega) e807
  have e852 : sh844 (a + 7) = some (.inr (.long, 144)) := hu848.s (by omega) e808
  have e853 : sh844 (a + 8) = some (.inr (.int, 6)) := hu848.s (by omega) e809
  have e854 : sh844 (a + 9) = some (.inr (.int, 4)) := hu848.s (by omega) e810
  have e855 : sh844 (a + 10) = some (.inl (0, ts_Text)) := hu848.s (by omega) e811
  have e856 : sh844 (a + 12) = some (.inl (0, ts_Text)) := hu848.s (by omega) e812
  have e857 : sh844 (a + 14) = some (.inl (0, ts_Text)) := hu848.s (by omega) e813
  have e858 : sh844 (a + 16) = some (.inl (5, ts_Value)) := hu848.s (by omega) e814
  have e859 : M845 a 14 < 0 := hu848.n (by omega) e815
  have e860 : M845 a 15 < 0 := hu848.n (by omega) e816
  have e861 : M845 a 16 = 0 := hu848.m (by omega) e817
  have e862 : M845 a 0 = s := hu848.m (by omega) e818
  have e863 : M845 a 1 = c := hu848.m (by omega) e819
  have e864 : M845 a 2 = k := hu848.m (by omega) e820
  have e865 : M845 a 3 = g_ := hu848.m (by omega) e821
  have e866 : M845 a 4 = w := hu848.m (by omega) e822
  have e867 : M845 a 5 = a + 1 := hu848.m (by omega) e823
  have e868 : M845 a 6 = a + 6 := hu848.m (by omega) e824
  have e869 : M845 a 7 = a + 7 := hu848.m (by omega) e825
  have e870 : M845 a 8 = a + 8 := hu848.m (by omega) e826
  have e871 : M845 a 9 = a + 9 := hu848.m (by omega) e827
  have e872 : M845 a 10 = a + 10 := hu848.m (by omega) e828
  have e873 : M845 a 11 = a + 12 := hu848.m (by omega) e829
  have e874 : M845 a 12 = a + 14 := hu848.m (by omega) e830
  have e875 : M845 a 13 = a + 16 := hu848.m (by omega) e831
  have rw876 : M845 (a + 6) = (fun _ => 0) := hu848.r (by omega) rw832
  have rw877 : M845 (a + 7) = (fun _ => 0) := hu848.r (by omega) rw833
  have rw878 : M845 (a + 8) = (fun _ => 0) := hu848.r (by omega) rw834
  have rw879 : M845 (a + 9) = (fun _ => 0) := hu848.r (by omega) rw835
  have pd880 : pev sh844 M845 (a + 1) := pd836.mv (hu848.as (by omega))
  have pd881 : tv sh844 M845 (a + 10) 60 [] := pd837.mv (hu848.as (by omega))
  have pd882 : tv sh844 M845 (a + 12) 60 [] := pd838.mv (hu848.as (by omega))
  have pd883 : tv sh844 M845 (a + 14) 60 [] := pd839.mv (hu848.as (by omega))
  have pd884 : vv sh844 M845 (a + 16) 0 0 [] := pd840.mv (hu848.as (by omega))
  have up885 : up a sh M sh844 M845 := up841.tr hu848 (by omega)
  clear e806 e807 e808 e809 e810 e811 e812 e813 e814 e815 e816 e817 e818 e819 e820 e821 e822 e823 e824 e825 e826 e827 e828 e829 e830 e831 e842 pd836 pd837 pd838 pd839 pd840 rw832 rw833 rw834 rw835 rw843
  have e886 : sh844 (a + 19) = some (.inl (5, ts_Value)) := pd849.1
  clear hu848 e847
  refine go_putF (x := (a + 19)) (v := vr (a + 19)) X f_Machine_73 rfl e850 rfl d_Machine_init_133 (s_vref rfl (by omega)) rfl rfl f_Machine_73w ?_
  generalize hM888 : m_s M845 a 14 (a + 19) = M887
  have e889 : M887 a 15 < 0 := by rw [← hM888, m_s_n (fun q => absurd q.2 (by decide))]; exact e860
  have e890 : M887 a 16 = 0 := by rw [← hM888]; exact (m_s_n (fun q => absurd q.2 (by decide))).trans e861
  have e891 : M887 a 0 = s := by rw [← hM888]; exact (m_s_n (fun q => absurd q.2 (by decide))).trans e862
  have e892 : M887 a 1 = c := by rw [← hM888]; exact (m_s_n (fun q => absurd q.2 (by decide))).trans e863
  have e893 : M887 a 2 = k := by rw [← hM888]; exact (m_s_n (fun q => absurd q.2 (by decide))).trans e864
  have e894 : M887 a 3 = g_ := by rw [← hM888]; exact (m_s_n (fun q => absurd q.2 (by decide))).trans e865
  have e895 : M887 a 4 = w := by rw [← hM888]; exact (m_s_n (fun q => absurd q.2 (by decide))).trans e866
  have e896 : M887 a 5 = a + 1 := by rw [← hM888]; exact (m_s_n (fun q => absurd q.2 (by decide))).trans e867
  have e897 : M887 a 6 = a + 6 := by rw [← hM888]; exact (m_s_n (fun q => absurd q.2 (by decide))).trans e868
  have e898 : M887 a 7 = a + 7 := by rw [← hM888]; exact (m_s_n (fun q => absurd q.2 (by decide))).trans e869
  have e899 : M887 a 8 = a + 8 := by rw [← hM888]; exact (m_s_n (fun q => absurd q.2 (by decide))).trans e870
  have e900 : M887 a 9 = a + 9 := by rw [← hM888]; exact (m_s_n (fun q => absurd q.2 (by decide))).trans e871
  have e901 : M887 a 10 = a + 10 := by rw [← hM888]; exact (m_s_n (fun q => absurd q.2 (by decide))).trans e872
  have e902 : M887 a 11 = a + 12 := by rw [← hM888]; exact (m_s_n (fun q => absurd q.2 (by decide))).trans e873
  have e903 : M887 a 12 = a + 14 := by rw [← hM888]; exact (m_s_n (fun q => absurd q.2 (by decide))).trans e874
  have e904 : M887 a 13 = a + 16 := by rw [← hM888]; exact (m_s_n (fun q => absurd q.2 (by decide))).trans e875
  have rw905 : M887 (a + 6) = (fun _ => 0) := by rw [← hM888]; exact (m_s_a (of_ne0 (by decide))).trans rw876
  have rw906 : M887 (a + 7) = (fun _ => 0) := by rw [← hM888]; exact (m_s_a (of_ne0 (by decide))).trans rw877
  have rw907 : M887 (a + 8) = (fun _ => 0) := by rw [← hM888]; exact (m_s_a (of_ne0 (by decide))).trans rw878
  have rw908 : M887 (a + 9) = (fun _ => 0) := by rw [← hM888]; exact (m_s_a (of_ne0 (by decide))).trans rw879
  have pd909 : pev sh844 M887 (a + 1) := by rw [← hM888]; exact pd880.mv (as_set (by omega))
  have pd910 : tv sh844 M887 (a + 10) 60 [] := by rw [← hM888]; exact pd881.mv (as_set (by omega))
  have pd911 : tv sh844 M887 (a + 12) 60 [] := by rw [← hM888]; exact pd882.mv (as_set (by omega))
  have pd912 : tv sh844 M887 (a + 14) 60 [] := by rw [← hM888]; exact pd883.mv (as_set (by omega))
  have pd913 : vv sh844 M887 (a + 16) 0 0 [] := by rw [← hM888]; exact pd884.mv (as_set (by omega))
  have pd914 : vv sh844 M887 (a + 19) 0 0 [] := by rw [← hM888]; exact pd849.mv (as_set (by omega))
  have e915 : M887 a 14 = a + 19 := by rw [← hM888, m_s_s]
  have up916 : up a sh M sh844 M887 := by rw [← hM888]; exact up885.set (by omega)
  clear e859 e860 e861 e862 e863 e864 e865 e866 e867 e868 e869 e870 e871 e872 e873 e874 e875 pd849 pd880 pd881 pd882 pd883 pd884 rw876 rw877 rw878 rw879 up885 hM888
  refine go_vret X d_Machine_init_136 rfl (by omega) (by omega) ?_
  exact ⟨rfl, rfl, up916, ⟨⟨e850, ⟨e851, e852, e853, e854⟩, ⟨e891, e892, e893, e894, e895⟩, ⟨e896, e897, e898, e899, e900, e901, e902, e903, e904, e915⟩, pd909, ⟨rw905, rw906, rw907, rw908⟩, h0⟩, ⟨pd910, pd911, pd912, pd913, pd914⟩⟩⟩
