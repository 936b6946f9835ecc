set_option maxHeartbeats 4000000 in
set_option maxRecDepth 100000 in
theorem c_Text_init (l : Launch) (D : va_G) {sh : s_S} {M : s_M} {sz a : Int} (hs : sh a = some (.inl (0, ts_Text))) (hM : M a = (fun j => if j = 0 then -1 else 0)) (h0 : 0 ≤ a) (hz : sz = a + 1) {c : Int} {N : Nat} (hc : c = N) (hN : N ≤ 100000) : Sp l D y_Text_init prog_11_method_1_code 2 none 2 1 N [vr a, vi c] sh M sz (fun v sh' M' sz' => v = none ∧ sz' = a + 2 ∧ up a sh M sh' M' ∧ tv sh' M' a N []) := by
  subst hc
  subst hz
  have hup := up.rf (a := a) (sh := sh) (M := M)
  have d0 : M a 0 < 0 := by rw [hM]; decide
  have d1 : M a 1 = 0 := by rw [hM]; decide
  refine Sp.ofGo (own := "CiteForge$Text") (nm := "<init>") (by decide) rfl rfl (Nat.le_of_ble_eq_true rfl) (lv := [(0, vr a), (1, vi (N : Int))]) rfl ?_
  intro g X
  refine go_aload_n X d_Text_init_0 rfl rfl ?_
  refine go_objInit X w_oi_Text w_oi2 w_oi3 (by omega) (Nat.le_of_ble_eq_true rfl) d_Text_init_1 ?_
  refine go_aload_n X d_Text_init_4 rfl rfl ?_
  refine go_iload_n X d_Text_init_5 rfl rfl ?_
  refine go_newa (N := N) (ty := .char) X w_ac_char rfl (by simp) (by omega) (by omega) (by omega) d_Text_init_6 ?_
  generalize hs2 : s_up sh (a + 1) (.inr (.char, N)) = sh1
  generalize hM4 : m_new M (a + 1) (fun _ => 0) = M3
  have hu5 : up (a + 1) sh M sh1 M3 := by rw [← hs2, ← hM4]; exact up.new
  have e6 : sh1 a = some (.inl (0, ts_Text)) := hu5.s (by omega) hs
  have e7 : M3 a 0 < 0 := hu5.n (by omega) d0
  have e8 : M3 a 1 = 0 := hu5.m (by omega) d1
  have up9 : up a sh M sh1 M3 := hup.tr hu5 (by omega)
  have e10 : sh1 (a + 1) = some (.inr (.char, N)) := by rw [← hs2, s_up_s]
  have rw11 : M3 (a + 1) = (fun _ => 0) := by rw [← hM4, m_new_s]
  clear hs2 hM4 hu5
  refine go_kn (k' := 1) (n' := N) (sz' := a + 2) (by omega) (by omega) (by omega) ?_
  refine go_putF (x := (a + 1)) (v := vr (a + 1)) X f_Text_9 rfl e6 rfl d_Text_init_8 (s_varr rfl (by omega)) rfl rfl f_Text_9w ?_
  generalize hM13 : m_s M3 a 0 (a + 1) = M12
  have e14 : M12 a 1 = 0 := by rw [← hM13]; exact (m_s_n (fun q => absurd q.2 (by decide))).trans e8
  have rw15 : M12 (a + 1) = (fun _ => 0) := by rw [← hM13]; exact (m_s_a (of_ne0 (by decide))).trans rw11
  have e16 : M12 a 0 = a + 1 := by rw [← hM13, m_s_s]
  have up17 : up a sh M sh1 M12 := by rw [← hM13]; exact up9.set (by omega)
  clear e7 e8 rw11 up9 hM13
  refine go_vret X d_Text_init_11 rfl (by omega) (by omega) ?_
  have hr : ∀ i, 0 ≤ M12 (a + 1) i ∧ M12 (a + 1) i < 65536 := fun i => by rw [rw15]; show (0 : Int) ≤ 0 ∧ (0 : Int) < 65536; decide
  exact ⟨rfl, rfl, up17, ⟨e6, e10, e16, by omega, by omega, hr, h0, hN⟩, e14, fun i h1 h2 => absurd h2 (by have e : (([] : List Int).length : Int) = 0 := rfl; omega)⟩
set_option maxHeartbeats 4000000 in
set_option maxRecDepth 100000 in
theorem c_Value_init (l : Launch) (D : va_G) {sh : s_S} {M : s_M} {sz a : Int} (hs : sh a = some (.inl (5, ts_Value))) (hM : M a = (fun j => if j = 2 then -1 else 0)) (h0 : 0 ≤ a) (hz : sz = a + 1) : Sp l D y_Value_init prog_12_method_1_code 1 none 3 2 62 [vr a] sh M sz (fun v sh' M' sz' => v = none ∧ sz' = a + 3 ∧ up a sh M sh' M' ∧ vv sh' M' a 0 0 []) := by
  subst hz
  have hup := up.rf (a := a) (sh := sh) (M := M)
  have d0 : M a 0 = 0 := by rw [hM]; decide
  have d1 : M a 1 = 0 := by rw [hM]; decide
  have d2 : M a 2 < 0 := by rw [hM]; decide
  refine Sp.ofGo (own := "CiteForge$Value") (nm := "<init>") (by decide) rfl rfl (Nat.le_of_ble_eq_true rfl) (lv := [(0, vr a)]) rfl ?_
  intro g X
  refine go_aload_n X d_Value_init_0 rfl rfl ?_
  refine go_objInit X w_oi_Value w_oi2 w_oi3 (by omega) (Nat.le_of_ble_eq_true rfl) d_Value_init_1 ?_
  refine go_aload_n X d_Value_init_4 rfl rfl ?_
  refine go_new (ts := ts_Text) (f := (fun j => if j = 0 then -1 else 0)) X cls0_ok w_cl_Value_9 w_in_0 w_ini_0 (by decide) (by decide) (by omega) (by omega) d_Value_init_5 ?_
  generalize hs2 : s_up sh (a + 1) (.inl (0, ts_Text)) = sh1
  generalize hM4 : m_new M (a + 1) (fun j => if j = 0 then -1 else 0) = M3
  have hu5 : up (a + 1) sh M sh1 M3 := by rw [← hs2, ← hM4]; exact up.new
  have e6 : sh1 a = some (.inl (5, ts_Value)) := hu5.s (by omega) hs
  have e7 : M3 a 0 = 0 := hu5.m (by omega) d0
  have e8 : M3 a 1 = 0 := hu5.m (by omega) d1
  have e9 : M3 a 2 < 0 := hu5.n (by omega) d2
  have up10 : up a sh M sh1 M3 := hup.tr hu5 (by omega)
  have e11 : sh1 (a + 1) = some (.inl (0, ts_Text)) := by rw [← hs2, s_up_s]
  have rw12 : M3 (a + 1) = (fun j => if j = 0 then -1 else 0) := by rw [← hM4, m_new_s]
  clear hs2 hM4 hu5
  refine go_kn (k' := 1) (n' := 2) (sz' := a + 2) (by omega) (by omega) (by omega) ?_
  refine go_dup X d_Value_init_8 rfl ?_
  refine go_bipush (v := 60) X d_Value_init_9 (by decide) ?_
  refine go_cI (st2 := []) (r := [vr (a + 1), vr a]) X k_Value_11 (c_Text_init l D e11 rw12 (by omega) (by omega) (N := 60) rfl (by decide)) rfl rfl (by omega) (Nat.le_of_ble_eq_true rfl) d_Value_init_11 (by omega) (by omega) (fun v sh13 M14 sz' hp => ?_)
  obtain ⟨e15, e16, hu17, pd18⟩ := hp
  subst e15
  refine go_kn (k' := 2) (n' := 62) (sz' := a + 3) (by omega) (by omega) (by omega) ?_
  show Go g (2) (62) sh13 M14 (a + 3) 14 [(0, vr a)] [vr (a + 1), vr a]
  have e19 : sh13 a = some (.inl (5, ts_Value)) := hu17.s (by omega) e6
  have e20 : M14 a 0 = 0 := hu17.m (by omega) e7
  have e21 : M14 a 1 = 0 := hu17.m (by omega) e8
  have e22 : M14 a 2 < 0 := hu17.n (by omega) e9
  have up23 : up a sh M sh13 M14 := up10.tr hu17 (by omega)
  clear e11 e6 e7 e8 e9 rw12
  have e24 : sh13 (a + 1) = some (.inl (0, ts_Text)) := pd18.1.1
  clear hu17 e16
  refine go_putF (x := (a + 1)) (v := vr (a + 1)) X f_Value_14 rfl e19 rfl d_Value_init_14 (s_vref rfl (by omega)) rfl rfl f_Value_14w ?_
  generalize hM26 : m_s M14 a 2 (a + 1) = M25
  have e27 : M25 a 0 = 0 := by rw [← hM26]; exact (m_s_n (fun q => absurd q.2 (by decide))).trans e20
  have e28 : M25 a 1 = 0 := by rw [← hM26]; exact (m_s_n (fun q => absurd q.2 (by decide))).trans e21
  have pd29 : tv sh13 M25 (a + 1) 60 [] := by rw [← hM26]; exact pd18.mv (as_set (by omega))
  have e30 : M25 a 2 = a + 1 := by rw [← hM26, m_s_s]
  have up31 : up a sh M sh13 M25 := by rw [← hM26]; exact up23.set (by omega)
  clear e20 e21 e22 pd18 up23 hM26
  refine go_vret X d_Value_init_17 rfl (by omega) (by omega) ?_
  exact ⟨rfl, rfl, up31, ⟨e19, e30, pd29, e27, e28, h0, by decide, by decide⟩⟩
set_option maxHeartbeats 4000000 in
set_option maxRecDepth 100000 in
theorem c_Entry_init (l : Launch) (D : va_G) {sh : s_S} {M : s_M} {sz a : Int} (hs : sh a = some (.inl (1, ts_Entry))) (hM : M a = (fun j => if j = 4 ∨ j = 5 ∨ j = 6 then -1 else 0)) (h0 : 0 ≤ a) (hz : sz = a + 1) : Sp l D y_Entry_init prog_4_method_1_code 2 none 3 16 446 [vr a] sh M sz (fun v sh' M' sz' => v = none ∧ sz' = a + 17 ∧ up a sh M sh' M' ∧ enx sh' M' a sen0) := by
  subst hz
  have hup := up.rf (a := a) (sh := sh) (M := M)
  have d0 : M a 0 = 0 := by rw [hM]; decide
  have d1 : M a 1 = 0 := by rw [hM]; decide
  have d2 : M a 2 = 0 := by rw [hM]; decide
  have d3 : M a 3 = 0 := by rw [hM]; decide
  have d4 : M a 4 < 0 := by rw [hM]; decide
  have d5 : M a 5 < 0 := by rw [hM]; decide
  have d6 : M a 6 < 0 := by rw [hM]; decide
  refine Sp.ofGo (own := "CiteForge$Entry") (nm := "<init>") (by decide) rfl rfl (Nat.le_of_ble_eq_true rfl) (lv := [(0, vr a)]) rfl ?_
  intro g X
  refine go_aload_n X d_Entry_init_0 rfl rfl ?_
  refine go_objInit X w_oi_Entry w_oi2 w_oi3 (by omega) (Nat.le_of_ble_eq_true rfl) d_Entry_init_1 ?_
  refine go_aload_n X d_Entry_init_4 rfl rfl ?_
  refine go_bipush (v := 6) X d_Entry_init_5 (by decide) ?_
  refine go_newa (N := 6) (ty := .long) X w_ac_long rfl (by simp) (by omega) (by omega) (by omega) d_Entry_init_7 ?_
  generalize hs2 : s_up sh (a + 1) (.inr (.long, 6)) = sh1
  generalize hM4 : m_new M (a + 1) (fun _ => 0) = M3
  have hu5 : up (a + 1) sh M sh1 M3 := by rw [← hs2, ← hM4]; exact up.new
  have e6 : sh1 a = some (.inl (1, ts_Entry)) := hu5.s (by omega) hs
  have e7 : M3 a 0 = 0 := hu5.m (by omega) d0
  have e8 : M3 a 1 = 0 := hu5.m (by omega) d1
  have e9 : M3 a 2 = 0 := hu5.m (by omega) d2
  have e10 : M3 a 3 = 0 := hu5.m (by omega) d3
  have e11 : M3 a 4 < 0 := hu5.n (by omega) d4
  have e12 : M3 a 5 < 0 := hu5.n (by omega) d5
  have e13 : M3 a 6 < 0 := hu5.n (by omega) d6
  have up14 : up a sh M sh1 M3 := hup.tr hu5 (by omega)
  have e15 : sh1 (a + 1) = some (.inr (.long, 6)) := by rw [← hs2, s_up_s]
  have rw16 : M3 (a + 1) = (fun _ => 0) := by rw [← hM4, m_new_s]
  clear hs2 hM4 hu5
  refine go_kn (k' := 1) (n' := 6) (sz' := a + 2) (by omega) (by omega) (by omega) ?_
  refine go_putF (x := (a + 1)) (v := vr (a + 1)) X f_Entry_11 rfl e6 rfl d_Entry_init_9 (s_varr rfl (by omega)) rfl rfl f_Entry_11w ?_
  generalize hM18 : m_s M3 a 4 (a + 1) = M17
  have e19 : M17 a 0 = 0 := by rw [← hM18]; exact (m_s_n (fun q => absurd q.2 (by decide))).trans e7
  have e20 : M17 a 1 = 0 := by rw [← hM18]; exact (m_s_n (fun q => absurd q.2 (by decide))).trans e8
  have e21 : M17 a 2 = 0 := by rw [← hM18]; exact (m_s_n (fun q => absurd q.2 (by decide))).trans e9
  have e22 : M17 a 3 = 0 := by rw [← hM18]; exact (m_s_n (fun q => absurd q.2 (by decide))).trans e10
  have e23 : M17 a 5 < 0 := by rw [← hM18, m_s_n (fun q => absurd q.2 (by decide))]; exact e12
  have e24 : M17 a 6 < 0 := by rw [← hM18, m_s_n (fun q => absurd q.2 (by decide))]; exact e13
  have rw25 : M17 (a + 1) = (fun _ => 0) := by rw [← hM18]; exact (m_s_a (of_ne0 (by decide))).trans rw16
  have e26 : M17 a 4 = a + 1 := by rw [← hM18, m_s_s]
  have up27 : up a sh M sh1 M17 := by rw [← hM18]; exact up14.set (by omega)
  clear e10 e11 e12 e13 e7 e8 e9 rw16 up14 hM18
  refine go_aload_n X d_Entry_init_12 rfl rfl ?_
  refine go_bipush (v := 6) X d_Entry_init_13 (by decide) ?_
  refine go_anew (N := 6) X w_cl_Entry_15 (by decide) (by decide) (by omega) (by omega) d_Entry_init_15 ?_
  generalize hs29 : s_up sh1 (a + 2) (.inr (.object "CiteForge$Text", 6)) = sh28
  generalize hM31 : m_new M17 (a + 2) (fun _ => -1) = M30
  have hu32 : up (a + 2) sh1 M17 sh28 M30 := by rw [← hs29, ← hM31]; exact up.new
  have e33 : sh28 a = some (.inl (1, ts_Entry)) := hu32.s (by omega) e6
  have e34 : sh28 (a + 1) = some (.inr (.long, 6)) := hu32.s (by omega) e15
  have e35 : M30 a 0 = 0 := hu32.m (by omega) e19
  have e36 : M30 a 1 = 0 := hu32.m (by omega) e20
  have e37 : M30 a 2 = 0 := hu32.m (by omega) e21
  have e38 : M30 a 3 = 0 := hu32.m (by omega) e22
  have e39 : M30 a 5 < 0 := hu32.n (by omega) e23
  have e40 : M30 a 6 < 0 := hu32.n (by omega) e24
  have e41 : M30 a 4 = a + 1 := hu32.m (by omega) e26
  have rw42 : M30 (a + 1) = (fun _ => 0) := hu32.r (by omega) rw25
  have up43 : up a sh M sh28 M30 := up27.tr hu32 (by omega)
  clear e15 e19 e20 e21 e22 e23 e24 e26 e6 rw25
  have e44 : sh28 (a + 2) = some (.inr (.object "CiteForge$Text", 6)) := by rw [← hs29, s_up_s]
  clear hs29 hM31 hu32
  refine go_kn (k' := 2) (n' := 12) (sz' := a + 3) (by omega) (by omega) (by omega) ?_
  refine go_putF (x := (a + 2)) (v := vr (a + 2)) X f_Entry_17 rfl e33 rfl d_Entry_init_18 (s_varr rfl (by omega)) rfl rfl f_Entry_17w ?_
  generalize hM46 : m_s M30 a 5 (a + 2) = M45
  have e47 : M45 a 0 = 0 := by rw [← hM46]; exact (m_s_n (fun q => absurd q.2 (by decide))).trans e35
  have e48 : M45 a 1 = 0 := by rw [← hM46]; exact (m_s_n (fun q => absurd q.2 (by decide))).trans e36
  have e49 : M45 a 2 = 0 := by rw [← hM46]; exact (m_s_n (fun q => absurd q.2 (by decide))).trans e37
  have e50 : M45 a 3 = 0 := by rw [← hM46]; exact (m_s_n (fun q => absurd q.2 (by decide))).trans e38
  have e51 : M45 a 6 < 0 := by rw [← hM46, m_s_n (fun q => absurd q.2 (by decide))]; exact e40
  have e52 : M45 a 4 = a + 1 := by rw [← hM46]; exact (m_s_n (fun q => absurd q.2 (by decide))).trans e41
  have rw53 : M45 (a + 1) = (fun _ => 0) := by rw [← hM46]; exact (m_s_a (of_ne0 (by decide))).trans rw42
  have e54 : M45 a 5 = a + 2 := by rw [← hM46, m_s_s]
  have up55 : up a sh M sh28 M45 := by rw [← hM46]; exact up43.set (by omega)
  clear e35 e36 e37 e38 e39 e40 e41 rw42 up43 hM46
  refine go_iconst (v := 0) X d_Entry_init_21 ?_
  refine go_istore_n (lv' := [(1, vi 0), (0, vr a)]) X d_Entry_init_22 rfl (by decide) rfl ?_
  have fm56 : fam 2 (lT (fun _ => [])) sh28 M45 (a + 2) 0 := fun i h0 h1 => absurd h1 (by omega)
  have lp : ∀ (fuel : Nat) (i_lp : Int) (shx_lp : s_S) (Mx_lp : s_M), 0 ≤ i_lp ∧ i_lp ≤ 6 → (shx_lp a = some (.inl (1, ts_Entry))) → (shx_lp (a + 1) = some (.inr (.long, 6))) → (shx_lp (a + 2) = some (.inr (.object "CiteForge$Text", 6))) → (Mx_lp a 0 = 0) → (Mx_lp a 1 = 0) → (Mx_lp a 2 = 0) → (Mx_lp a 3 = 0) → (Mx_lp a 4 = a + 1) → (Mx_lp a 5 = a + 2) → (Mx_lp a 6 < 0) → (Mx_lp (a + 1) = (fun _ => 0)) → (fam 2 (lT (fun _ => [])) shx_lp Mx_lp (a + 2) i_lp) → (up a sh M shx_lp Mx_lp) → (6 - i_lp).toNat < fuel → Go g (2 + 2 * i_lp.toNat) (12 + 62 * i_lp.toNat) shx_lp Mx_lp (a + 3 + 2 * i_lp) 23 [(0, vr a), (1, vi i_lp)] [] := by
    intro fuel
    induction fuel with
    | zero => intro i_lp shx_lp Mx_lp hi_lp g0_lp g1_lp g2_lp g3_lp g4_lp g5_lp g6_lp g7_lp g8_lp g9_lp g10_lp g11_lp g12_lp hm_lp; exact absurd hm_lp (Nat.not_lt_zero _)
    | succ fuel ih_lp =>
      intro i_lp shx_lp Mx_lp hi_lp g0_lp g1_lp g2_lp g3_lp g4_lp g5_lp g6_lp g7_lp g8_lp g9_lp g10_lp g11_lp g12_lp hm_lp
      refine go_iload_n X d_Entry_init_23 rfl rfl ?_
      refine go_bipush (v := 6) X d_Entry_init_24 (by decide) ?_
      refine go_icmp_ge (tgt := 50) X d_Entry_init_26 rfl (by omega) (by omega) (fun hq57 => ?_) (fun hq57 => ?_)
      · skip
        refine go_aload_n X d_Entry_init_50 rfl rfl ?_
        refine go_new (ts := ts_Text) (f := (fun j => if j = 0 then -1 else 0)) X cls0_ok w_cl_Entry_15 w_in_0 w_ini_0 (by decide) (by decide) (by omega) (by omega) d_Entry_init_51 ?_
        generalize hs59 : s_up shx_lp (a + 3 + 2 * i_lp) (.inl (0, ts_Text)) = sh58
        generalize hM61 : m_new Mx_lp (a + 3 + 2 * i_lp) (fun j => if j = 0 then -1 else 0) = M60
        have hu62 : up (a + 3 + 2 * i_lp) shx_lp Mx_lp sh58 M60 := by rw [← hs59, ← hM61]; exact up.new
        have e63 : sh58 a = some (.inl (1, ts_Entry)) := hu62.s (by omega) g0_lp
        have e64 : sh58 (a + 1) = some (.inr (.long, 6)) := hu62.s (by omega) g1_lp
        have e65 : sh58 (a + 2) = some (.inr (.object "CiteForge$Text", 6)) := hu62.s (by omega) g2_lp
        have e66 : M60 a 0 = 0 := hu62.m (by omega) g3_lp
        have e67 : M60 a 1 = 0 := hu62.m (by omega) g4_lp
        have e68 : M60 a 2 = 0 := hu62.m (by omega) g5_lp
        have e69 : M60 a 3 = 0 := hu62.m (by omega) g6_lp
        have e70 : M60 a 6 < 0 := hu62.n (by omega) g9_lp
        have e71 : M60 a 4 = a + 1 := hu62.m (by omega) g7_lp
        have e72 : M60 a 5 = a + 2 := hu62.m (by omega) g8_lp
        have rw73 : M60 (a + 1) = (fun _ => 0) := hu62.r (by omega) g10_lp
        have fm74 : fam 2 (lT (fun _ => [])) sh58 M60 (a + 2) i_lp := g11_lp.mv (by decide) lT_loc (hu62.as (by omega))
        have up75 : up a sh M sh58 M60 := g12_lp.tr hu62 (by omega)
        have e76 : sh58 (a + 3 + 2 * i_lp) = some (.inl (0, ts_Text)) := by rw [← hs59, s_up_s]
        have rw77 : M60 (a + 3 + 2 * i_lp) = (fun j => if j = 0 then -1 else 0) := by rw [← hM61, m_new_s]
        clear hs59 hM61 hu62
        refine go_kn (k' := 2 + 2 * i_lp.toNat + 1) (n' := 12 + 62 * i_lp.toNat + 2) (sz' := a + 3 + 2 * i_lp + 1) (by omega) (by omega) (by omega) ?_
        refine go_dup X d_Entry_init_54 rfl ?_
        refine go_bipush (v := 60) X d_Entry_init_55 (by decide) ?_
        refine go_cI (st2 := []) (r := [vr (a + 3 + 2 * i_lp), vr a]) X k_Entry_21 (c_Text_init l D e76 rw77 (by omega) (by omega) (N := 60) rfl (by decide)) rfl rfl (by omega) (Nat.le_of_ble_eq_true rfl) d_Entry_init_57 (by omega) (by omega) (fun v sh78 M79 sz' hp => ?_)
        obtain ⟨e80, e81, hu82, pd83⟩ := hp
        subst e80
        refine go_kn (k' := 2 + 2 * i_lp.toNat + 2) (n' := 12 + 62 * i_lp.toNat + 62) (sz' := a + 3 + 2 * i_lp + 2) (by omega) (by omega) (by omega) ?_
        show Go g (2 + 2 * i_lp.toNat + 2) (12 + 62 * i_lp.toNat + 62) sh78 M79 (a + 3 + 2 * i_lp + 2) 60 [(0, vr a), (1, vi i_lp)] [vr (a + 3 + 2 * i_lp), vr a]
        have e84 : sh78 a = some (.inl (1, ts_Entry)) := hu82.s (by omega) e63
        have e85 : sh78 (a + 1) = some (.inr (.long, 6)) := hu82.s (by omega) e64
        have e86 : sh78 (a + 2) = some (.inr (.object "CiteForge$Text", 6)) := hu82.s (by omega) e65
        have e87 : M79 a 0 = 0 := hu82.m (by omega) e66
        have e88 : M79 a 1 = 0 := hu82.m (by omega) e67
        have e89 : M79 a 2 = 0 := hu82.m (by omega) e68
        have e90 : M79 a 3 = 0 := hu82.m (by omega) e69
        have e91 : M79 a 6 < 0 := hu82.n (by omega) e70
        have e92 : M79 a 4 = a + 1 := hu82.m (by omega) e71
        have e93 : M79 a 5 = a + 2 := hu82.m (by omega) e72
        have rw94 : M79 (a + 1) = (fun _ => 0) := hu82.r (by omega) rw73
        have fm95 : fam 2 (lT (fun _ => [])) sh78 M79 (a + 2) i_lp := fm74.mv (by decide) lT_loc (hu82.as (by omega))
        have up96 : up a sh M sh78 M79 := up75.tr hu82 (by omega)
        clear e63 e64 e65 e66 e67 e68 e69 e70 e71 e72 e76 fm74 rw73 rw77
        have e97 : sh78 (a + 3 + 2 * i_lp) = some (.inl (0, ts_Text)) := pd83.1.1
        clear hu82 e81
        refine go_putF (x := (a + 3 + 2 * i_lp)) (v := vr (a + 3 + 2 * i_lp)) X f_Entry_24 rfl e84 rfl d_Entry_init_60 (s_vref rfl (by omega)) rfl rfl f_Entry_24w ?_
        generalize hM99 : m_s M79 a 6 (a + 3 + 2 * i_lp) = M98
        have e100 : M98 a 0 = 0 := by rw [← hM99]; exact (m_s_n (fun q => absurd q.2 (by decide))).trans e87
        have e101 : M98 a 1 = 0 := by rw [← hM99]; exact (m_s_n (fun q => absurd q.2 (by decide))).trans e88
        have e102 : M98 a 2 = 0 := by rw [← hM99]; exact (m_s_n (fun q => absurd q.2 (by decide))).trans e89
        have e103 : M98 a 3 = 0 := by rw [← hM99]; exact (m_s_n (fun q => absurd q.2 (by decide))).trans e90
        have e104 : M98 a 4 = a + 1 := by rw [← hM99]; exact (m_s_n (fun q => absurd q.2 (by decide))).trans e92
        have e105 : M98 a 5 = a + 2 := by rw [← hM99]; exact (m_s_n (fun q => absurd q.2 (by decide))).trans e93
        have rw106 : M98 (a + 1) = (fun _ => 0) := by rw [← hM99]; exact (m_s_a (of_ne0 (by decide))).trans rw94
        have pd107 : tv sh78 M98 (a + 3 + 2 * i_lp) 60 [] := by rw [← hM99]; exact pd83.mv (as_set (by omega))
        have fm108 : fam 2 (lT (fun _ => [])) sh78 M98 (a + 2) i_lp := by rw [← hM99]; exact fm95.mv (by decide) lT_loc (as_set (by omega))
        have e109 : M98 a 6 = a + 3 + 2 * i_lp := by rw [← hM99, m_s_s]
        have up110 : up a sh M sh78 M98 := by rw [← hM99]; exact up96.set (by omega)
        clear e87 e88 e89 e90 e91 e92 e93 fm95 pd83 rw94 up96 hM99
        refine go_vret X d_Entry_init_63 rfl (by omega) (by omega) ?_
        have hi6 : i_lp = 6 := by omega
        subst hi6
        exact ⟨rfl, by omega, up110, ⟨e84, e85, e86, e100, e101, e102, e103, e104, e105, e109.trans (by omega), by decide, h0, rw106, fun _ => (by decide : rL 0), by decide, fm108, by rw [show a + 15 = a + 3 + 2 * 6 by omega]; exact pd107⟩⟩
      · skip
        refine go_aload_n X d_Entry_init_29 rfl rfl ?_
        refine go_get (v := vr (a + 2)) X f_Entry_17 g0_lp rfl d_Entry_init_30 (s_varr g8_lp (by omega)) ?_
        refine go_iload_n X d_Entry_init_33 rfl rfl ?_
        refine go_new (ts := ts_Text) (f := (fun j => if j = 0 then -1 else 0)) X cls0_ok w_cl_Entry_15 w_in_0 w_ini_0 (by decide) (by decide) (by omega) (by omega) d_Entry_init_34 ?_
        generalize hs112 : s_up shx_lp (a + 3 + 2 * i_lp) (.inl (0, ts_Text)) = sh111
        generalize hM114 : m_new Mx_lp (a + 3 + 2 * i_lp) (fun j => if j = 0 then -1 else 0) = M113
        have hu115 : up (a + 3 + 2 * i_lp) shx_lp Mx_lp sh111 M113 := by rw [← hs112, ← hM114]; exact up.new
        have e116 : sh111 a = some (.inl (1, ts_Entry)) := hu115.s (by omega) g0_lp
        have e117 : sh111 (a + 1) = some (.inr (.long, 6)) := hu115.s (by omega) g1_lp
        have e118 : sh111 (a + 2) = some (.inr (.object "CiteForge$Text", 6)) := hu115.s (by omega) g2_lp
        have e119 : M113 a 0 = 0 := hu115.m (by omega) g3_lp
        have e120 : M113 a 1 = 0 := hu115.m (by omega) g4_lp
        have e121 : M113 a 2 = 0 := hu115.m (by omega) g5_lp
        have e122 : M113 a 3 = 0 := hu115.m (by omega) g6_lp
        have e123 : M113 a 6 < 0 := hu115.n (by omega) g9_lp
        have e124 : M113 a 4 = a + 1 := hu115.m (by omega) g7_lp
        have e125 : M113 a 5 = a + 2 := hu115.m (by omega) g8_lp
        have rw126 : M113 (a + 1) = (fun _ => 0) := hu115.r (by omega) g10_lp
        have fm127 : fam 2 (lT (fun _ => [])) sh111 M113 (a + 2) i_lp := g11_lp.mv (by decide) lT_loc (hu115.as (by omega))
        have up128 : up a sh M sh111 M113 := g12_lp.tr hu115 (by omega)
        have e129 : sh111 (a + 3 + 2 * i_lp) = some (.inl (0, ts_Text)) := by rw [← hs112, s_up_s]
        have rw130 : M113 (a + 3 + 2 * i_lp) = (fun j => if j = 0 then -1 else 0) := by rw [← hM114, m_new_s]
        clear hs112 hM114 hu115
        refine go_kn (k' := 2 + 2 * i_lp.toNat + 1) (n' := 12 + 62 * i_lp.toNat + 2) (sz' := a + 3 + 2 * i_lp + 1) (by omega) (by omega) (by omega) ?_
        refine go_dup X d_Entry_init_37 rfl ?_
        refine go_bipush (v := 60) X d_Entry_init_38 (by decide) ?_
        refine go_cI (st2 := []) (r := [vr (a + 3 + 2 * i_lp), vi i_lp, vr (a + 2)]) X k_Entry_21 (c_Text_init l D e129 rw130 (by omega) (by omega) (N := 60) rfl (by decide)) rfl rfl (by omega) (Nat.le_of_ble_eq_true rfl) d_Entry_init_40 (by omega) (by omega) (fun v sh131 M132 sz' hp => ?_)
        obtain ⟨e133, e134, hu135, pd136⟩ := hp
        subst e133
        refine go_kn (k' := 2 + 2 * i_lp.toNat + 2) (n' := 12 + 62 * i_lp.toNat + 62) (sz' := a + 3 + 2 * i_lp + 2) (by omega) (by omega) (by omega) ?_
        show Go g (2 + 2 * i_lp.toNat + 2) (12 + 62 * i_lp.toNat + 62) sh131 M132 (a + 3 + 2 * i_lp + 2) 43 [(0, vr a), (1, vi i_lp)] [vr (a + 3 + 2 * i_lp), vi i_lp, vr (a + 2)]
        have e137 : sh131 a = some (.inl (1, ts_Entry)) := hu135.s (by omega) e116
        have e138 : sh131 (a + 1) = some (.inr (.long, 6)) := hu135.s (by omega) e117
        have e139 : sh131 (a + 2) = some (.inr (.object "CiteForge$Text", 6)) := hu135.s (by omega) e118
        have e140 : M132 a 0 = 0 := hu135.m (by omega) e119
        have e141 : M132 a 1 = 0 := hu135.m (by omega) e120
        have e142 : M132 a 2 = 0 := hu135.m (by omega) e121
        have e143 : M132 a 3 = 0 := hu135.m (by omega) e122
        have e144 : M132 a 6 < 0 := hu135.n (by omega) e123
        have e145 : M132 a 4 = a + 1 := hu135.m (by omega) e124
        have e146 : M132 a 5 = a + 2 := hu135.m (by omega) e125
        have rw147 : M132 (a + 1) = (fun _ => 0) := hu135.r (by omega) rw126
        have fm148 : fam 2 (lT (fun _ => [])) sh131 M132 (a + 2) i_lp := fm127.mv (by decide) lT_loc (hu135.as (by omega))
        have up149 : up a sh M sh131 M132 := up128.tr hu135 (by omega)
        clear e116 e117 e118 e119 e120 e121 e122 e123 e124 e125 e129 fm127 rw126 rw130
        have e150 : sh131 (a + 3 + 2 * i_lp) = some (.inl (0, ts_Text)) := pd136.1.1
        clear hu135 e134
        refine go_aast X e139 (by omega) (by omega) (cls0) e150 d_Entry_init_43 ?_
        generalize hM152 : m_s M132 (a + 2) i_lp (a + 3 + 2 * i_lp) = M151
        have e153 : M151 a 0 = 0 := by rw [← hM152]; exact (m_s_n (fun q => absurd q.1 (of_ne1 (by decide)))).trans e140
        have e154 : M151 a 1 = 0 := by rw [← hM152]; exact (m_s_n (fun q => absurd q.1 (of_ne1 (by decide)))).trans e141
        have e155 : M151 a 2 = 0 := by rw [← hM152]; exact (m_s_n (fun q => absurd q.1 (of_ne1 (by decide)))).trans e142
        have e156 : M151 a 3 = 0 := by rw [← hM152]; exact (m_s_n (fun q => absurd q.1 (of_ne1 (by decide)))).trans e143
        have e157 : M151 a 6 < 0 := by rw [← hM152, m_s_n (fun q => absurd q.1 (of_ne1 (by decide)))]; exact e144
        have e158 : M151 a 4 = a + 1 := by rw [← hM152]; exact (m_s_n (fun q => absurd q.1 (of_ne1 (by decide)))).trans e145
        have e159 : M151 a 5 = a + 2 := by rw [← hM152]; exact (m_s_n (fun q => absurd q.1 (of_ne1 (by decide)))).trans e146
        have rw160 : M151 (a + 1) = (fun _ => 0) := by rw [← hM152]; exact (m_s_a (of_ne (by decide))).trans rw147
        have pd161 : tv sh131 M151 (a + 3 + 2 * i_lp) 60 [] := by rw [← hM152]; exact pd136.mv (as_set (by omega))
        have fm162 : fam 2 (lT (fun _ => [])) sh131 M151 (a + 2) (i_lp + 1) := by
          rw [← hM152, show a + 3 + 2 * i_lp = a + 2 + 1 + 2 * i_lp by omega]
          exact fm148.push (by decide) lT_loc (by omega) (by rw [show a + 2 + 1 + 2 * i_lp = a + 3 + 2 * i_lp by omega]; exact pd136)
        have up163 : up a sh M sh131 M151 := by rw [← hM152]; exact up149.set (by omega)
        clear e140 e141 e142 e143 e144 e145 e146 fm148 pd136 rw147 up149 hM152
        refine go_iinc (v := 1) (x := i_lp) (lv' := [(1, vi (i_lp + 1)), (0, vr a)]) X d_Entry_init_44 rfl (by decide) rfl ?_
        refine go_goto (tgt := 23) X d_Entry_init_47 rfl ?_
        refine go_kn (k' := 2 + 2 * (i_lp + 1).toNat) (n' := 12 + 62 * (i_lp + 1).toNat) (sz' := a + 3 + 2 * (i_lp + 1)) (by omega) (by omega) (by omega) ?_
        refine go_lv (lv' := [(0, vr a), (1, vi (i_lp + 1))]) X [1, 0] rfl ?_
        exact ih_lp (i_lp + 1) sh131 M151 (by omega) e137 e138 e139 e153 e154 e155 e156 e158 e159 e157 rw160 fm162 up163 (by omega)
  refine go_kn (k' := 2 + 2 * (0 : Int).toNat) (n' := 12 + 62 * (0 : Int).toNat) (sz' := a + 3 + 2 * 0) (by omega) (by omega) (by omega) ?_
  refine go_lv (lv' := [(0, vr a), (1, vi 0)]) X [1, 0] rfl ?_
  exact lp _ 0 sh28 M45 (by omega) e33 e34 e44 e47 e48 e49 e50 e52 e54 e51 rw53 fm56 up55 (Nat.lt_succ_self _)
