/-- the class: which part stands where -/
def cfx (sh : s_S) (M : s_M) (o : Int) : Prop := sh o = some (.inl (10, ts_CiteForge)) ∧ M o 0 = o + 1 ∧ M o 1 = o + 2 ∧ M o 2 = o + 157 ∧ M o 3 = o + 180 ∧ M o 4 = o + 183 ∧ M o 5 = o + 221 ∧ M o 6 = o + 225 ∧ 0 ≤ o
theorem cfx.mv {sh sh' : s_S} {M M' : s_M} {o : Int} (h : cfx sh M o) (e : sh' o = sh o ∧ M' o = M o) : cfx sh' M' o := by
  obtain ⟨q1, q2, q3, q4, q5, q6, q7, q8, q9⟩ := h
  exact ⟨by rw [e.1]; exact q1, by rw [e.2]; exact q2, by rw [e.2]; exact q3, by rw [e.2]; exact q4, by rw [e.2]; exact q5, by rw [e.2]; exact q6, by rw [e.2]; exact q7, by rw [e.2]; exact q8, q9⟩
/-- a new object -/
def cf0 (sh : s_S) (M : s_M) (o : Int) : Prop := cfx sh M o ∧ sh (o + 1) = some (.inr (.int, 10)) ∧ M (o + 1) = (fun _ => 0) ∧ shv sh M (o + 2) (o + 1) 0 (fun _ => sen0) ∧ rdv sh M (o + 157) (o + 2) (o + 1) 0 [] (fun _ => 0) (fun _ => []) [] ∧ civ sh M (o + 180) (o + 2) (o + 1) 0 0 (fun _ => 0) (fun _ => 0) ∧ stv sh M (o + 183) (o + 1) 0 (fun _ => (0, 0, [])) ∧ pg0 sh M (o + 221) 0 [] ∧ mcx sh M (o + 225) (o + 2) (o + 180) (o + 183) (o + 221) (o + 1) (fun _ => 0) (fun _ => 0) (fun _ => 0) (fun _ => 0) [] [] [] (0, 0, []) (0, 0, [])
theorem cf0.mv {sh sh' : s_S} {M M' : s_M} {o : Int} (h : cf0 sh M o) (hu : as_ o (o + 247) sh M sh' M') : cf0 sh' M' o := by
  obtain ⟨q1, q2, q3, q4, q5, q6, q7, q8, q9⟩ := h
  have e := hu o (by omega) (by omega)
  have e1 := hu (o + 1) (by omega) (by omega)
  exact ⟨q1.mv e, by rw [e1.1]; exact q2, by rw [e1.2]; exact q3, q4.mv (fun z h1 h2 => hu z (by omega) (by omega)) e1.1, q5.mv (fun z h1 h2 => hu z (by omega) (by omega)) e1.1, q6.mv (fun z h1 h2 => hu z (by omega) (by omega)) e1.1, q7.mv (fun z h1 h2 => hu z (by omega) (by omega)) e1.1, q8.mv (fun z h1 h2 => hu z (by omega) (by omega)), q9.mv (fun z h1 h2 => hu z (by omega) (by omega))⟩
set_option maxHeartbeats 4000000 in
set_option maxRecDepth 100000 in
theorem c_CiteForge_init (l : Launch) (D : va_G) {sh : s_S} {M : s_M} {sz o : Int} (hs : sh o = some (.inl (10, ts_CiteForge))) (hM : M o = (fun j => if j = 0 ∨ j = 1 ∨ j = 2 ∨ j = 3 ∨ j = 4 ∨ j = 5 ∨ j = 6 then -1 else 0)) (h0 : 0 ≤ o) (hz : sz = o + 1) : Sp l D y_CiteForge_init prog_1_method_1_code 1 none 6 246 6867 [vr o] sh M sz (fun v sh' M' sz' => v = none ∧ sz' = o + 247 ∧ up o sh M sh' M' ∧ cf0 sh' M' o) := by
  subst hz
  have hup := up.rf (a := o) (sh := sh) (M := M)
  have d0 : M o 0 < 0 := by rw [hM]; decide
  have d1 : M o 1 < 0 := by rw [hM]; decide
  have d2 : M o 2 < 0 := by rw [hM]; decide
  have d3 : M o 3 < 0 := by rw [hM]; decide
  have d4 : M o 4 < 0 := by rw [hM]; decide
  have d5 : M o 5 < 0 := by rw [hM]; decide
  have d6 : M o 6 < 0 := by rw [hM]; decide
  refine Sp.ofGo (own := "CiteForge") (nm := "<init>") (by decide) rfl rfl (Nat.le_of_ble_eq_true rfl) (lv := [(0, vr o)]) rfl ?_
  intro g X
  refine go_aload_n X d_CiteForge_init_0 rfl rfl ?_
  refine go_objInit X w_oi_CiteForge w_oi2 w_oi3 (by omega) (Nat.le_of_ble_eq_true rfl) d_CiteForge_init_1 ?_
  refine go_aload_n X d_CiteForge_init_4 rfl rfl ?_
  refine go_bipush (v := 10) X d_CiteForge_init_5 (by decide) ?_
  refine go_newa (N := 10) (ty := .int) X w_ac_int rfl (by simp) (by omega) (by omega) (by omega) d_CiteForge_init_7 ?_
  generalize hs2 : s_up sh (o + 1) (.inr (.int, 10)) = sh1
  generalize hM4 : m_new M (o + 1) (fun _ => 0) = M3
  have hu5 : up (o + 1) sh M sh1 M3 := by rw [← hs2, ← hM4]; exact up.new
  have e6 : sh1 o = some (.inl (10, ts_CiteForge)) := hu5.s (by omega) hs
  have e7 : M3 o 0 < 0 := hu5.n (by omega) d0
  have e8 : M3 o 1 < 0 := hu5.n (by omega) d1
  have e9 : M3 o 2 < 0 := hu5.n (by omega) d2
  have e10 : M3 o 3 < 0 := hu5.n (by omega) d3
  have e11 : M3 o 4 < 0 := hu5.n (by omega) d4
  have e12 : M3 o 5 < 0 := hu5.n (by omega) d5
  have e13 : M3 o 6 < 0 := hu5.n (by omega) d6
  have up14 : up o sh M sh1 M3 := hup.tr hu5 (by omega)
  have e15 : sh1 (o + 1) = some (.inr (.int, 10)) := by rw [← hs2, s_up_s]
  have rw16 : M3 (o + 1) = (fun _ => 0) := by rw [← hM4, m_new_s]
  clear hs2 hM4 hu5
  refine go_kn (k' := 1) (n' := 10) (sz' := o + 2) (by omega) (by omega) (by omega) ?_
  refine go_putF (x := (o + 1)) (v := vr (o + 1)) X f_CiteForge_9 rfl e6 rfl d_CiteForge_init_9 (s_varr rfl (by omega)) rfl rfl f_CiteForge_9w ?_
  generalize hM18 : m_s M3 o 0 (o + 1) = M17
  have e19 : M17 o 1 < 0 := by rw [← hM18, m_s_n (fun q => absurd q.2 (by decide))]; exact e8
  have e20 : M17 o 2 < 0 := by rw [← hM18, m_s_n (fun q => absurd q.2 (by decide))]; exact e9
  have e21 : M17 o 3 < 0 := by rw [← hM18, m_s_n (fun q => absurd q.2 (by decide))]; exact e10
  have e22 : M17 o 4 < 0 := by rw [← hM18, m_s_n (fun q => absurd q.2 (by decide))]; exact e11
  have e23 : M17 o 5 < 0 := by rw [← hM18, m_s_n (fun q => absurd q.2 (by decide))]; exact e12
  have e24 : M17 o 6 < 0 := by rw [← hM18, m_s_n (fun q => absurd q.2 (by decide))]; exact e13
  have rw25 : M17 (o + 1) = (fun _ => 0) := by rw [← hM18]; exact (m_s_a (of_ne0 (by decide))).trans rw16
  have e26 : M17 o 0 = o + 1 := by rw [← hM18, m_s_s]
  have up27 : up o sh M sh1 M17 := by rw [← hM18]; exact up14.set (by omega)
  clear e10 e11 e12 e13 e7 e8 e9 rw16 up14 hM18
  refine go_aload_n X d_CiteForge_init_12 rfl rfl ?_
  refine go_new (ts := ts_Shelf) (f := (fun j => if j = 0 ∨ j = 1 then -1 else 0)) X cls2_ok w_cl_CiteForge_13 w_in_2 w_ini_2 (by decide) (by decide) (by omega) (by omega) d_CiteForge_init_13 ?_
  generalize hs29 : s_up sh1 (o + 2) (.inl (2, ts_Shelf)) = sh28
  generalize hM31 : m_new M17 (o + 2) (fun j => if j = 0 ∨ j = 1 then -1 else 0) = M30
  have hu32 : up (o + 2) sh1 M17 sh28 M30 := by rw [← hs29, ← hM31]; exact up.new
  have e33 : sh28 o = some (.inl (10, ts_CiteForge)) := hu32.s (by omega) e6
  have e34 : sh28 (o + 1) = some (.inr (.int, 10)) := hu32.s (by omega) e15
  have e35 : M30 o 1 < 0 := hu32.n (by omega) e19
  have e36 : M30 o 2 < 0 := hu32.n (by omega) e20
  have e37 : M30 o 3 < 0 := hu32.n (by omega) e21
  have e38 : M30 o 4 < 0 := hu32.n (by omega) e22
  have e39 : M30 o 5 < 0 := hu32.n (by omega) e23
  have e40 : M30 o 6 < 0 := hu32.n (by omega) e24
  have e41 : M30 o 0 = o + 1 := hu32.m (by omega) e26
  have rw42 : M30 (o + 1) = (fun _ => 0) := hu32.r (by omega) rw25
  have up43 : up o sh M sh28 M30 := up27.tr hu32 (by omega)
  clear e15 e19 e20 e21 e22 e23 e24 e26 e6 rw25
  have e44 : sh28 (o + 2) = some (.inl (2, ts_Shelf)) := by rw [← hs29, s_up_s]
  have rw45 : M30 (o + 2) = (fun j => if j = 0 ∨ j = 1 then -1 else 0) := by rw [← hM31, m_new_s]
  clear hs29 hM31 hu32
  refine go_kn (k' := 2) (n' := 13) (sz' := o + 3) (by omega) (by omega) (by omega) ?_
  refine go_dup X d_CiteForge_init_16 rfl ?_
  refine go_aload_n X d_CiteForge_init_17 rfl rfl ?_
  refine go_get (v := vr (o + 1)) X f_CiteForge_9 e33 rfl d_CiteForge_init_18 (s_varr e41 (by omega)) ?_
  refine go_cI (st2 := []) (r := [vr (o + 2), vr o]) X k_CiteForge_15 (c_Shelf_init l D e44 rw45 (by omega) (by omega) e34 (by omega)) rfl rfl (by omega) (Nat.le_of_ble_eq_true rfl) d_CiteForge_init_21 (by omega) (by omega) (fun v sh46 M47 sz' hp => ?_)
  obtain ⟨e48, e49, hu50, pd51⟩ := hp
  subst e48
  refine go_kn (k' := 156) (n' := 4099) (sz' := o + 157) (by omega) (by omega) (by omega) ?_
  show Go g (156) (4099) sh46 M47 (o + 157) 24 [(0, vr o)] [vr (o + 2), vr o]
  have e52 : sh46 o = some (.inl (10, ts_CiteForge)) := hu50.s (by omega) e33
  have e53 : sh46 (o + 1) = some (.inr (.int, 10)) := hu50.s (by omega) e34
  have e54 : M47 o 1 < 0 := hu50.n (by omega) e35
  have e55 : M47 o 2 < 0 := hu50.n (by omega) e36
  have e56 : M47 o 3 < 0 := hu50.n (by omega) e37
  have e57 : M47 o 4 < 0 := hu50.n (by omega) e38
  have e58 : M47 o 5 < 0 := hu50.n (by omega) e39
  have e59 : M47 o 6 < 0 := hu50.n (by omega) e40
  have e60 : M47 o 0 = o + 1 := hu50.m (by omega) e41
  have rw61 : M47 (o + 1) = (fun _ => 0) := hu50.r (by omega) rw42
  have up62 : up o sh M sh46 M47 := up43.tr hu50 (by omega)
  clear e33 e34 e35 e36 e37 e38 e39 e40 e41 e44 rw42 rw45
  clear hu50 e49
  refine go_putF (x := (o + 2)) (v := vr (o + 2)) X f_CiteForge_18 rfl e52 rfl d_CiteForge_init_24 (s_vref rfl (by omega)) rfl rfl f_CiteForge_18w ?_
  generalize hM64 : m_s M47 o 1 (o + 2) = M63
  have e65 : M63 o 2 < 0 := by rw [← hM64, m_s_n (fun q => absurd q.2 (by decide))]; exact e55
  have e66 : M63 o 3 < 0 := by rw [← hM64, m_s_n (fun q => absurd q.2 (by decide))]; exact e56
  have e67 : M63 o 4 < 0 := by rw [← hM64, m_s_n (fun q => absurd q.2 (by decide))]; exact e57
  have e68 : M63 o 5 < 0 := by rw [← hM64, m_s_n (fun q => absurd q.2 (by decide))]; exact e58
  have e69 : M63 o 6 < 0 := by rw [← hM64, m_s_n (fun q => absurd q.2 (by decide))]; exact e59
  have e70 : M63 o 0 = o + 1 := by rw [← hM64]; exact (m_s_n (fun q => absurd q.2 (by decide))).trans e60
  have rw71 : M63 (o + 1) = (fun _ => 0) := by rw [← hM64]; exact (m_s_a (of_ne0 (by decide))).trans rw61
  have pd72 : shv sh46 M63 (o + 2) (o + 1) 0 (fun _ => sen0) := by rw [← hM64]; exact pd51.mv (as_set (by omega)) rfl
  have e73 : M63 o 1 = o + 2 := by rw [← hM64, m_s_s]
  have up74 : up o sh M sh46 M63 := by rw [← hM64]; exact up62.set (by omega)
  clear e54 e55 e56 e57 e58 e59 e60 pd51 rw61 up62 hM64
  refine go_aload_n X d_CiteForge_init_27 rfl rfl ?_
  refine go_new (ts := ts_Reader) (f := (fun j => if j = 0 ∨ j = 1 ∨ j = 2 ∨ j = 3 ∨ j = 4 ∨ j = 8 ∨ j = 11 then -1 else 0)) X cls3_ok w_cl_CiteForge_22 w_in_3 w_ini_3 (by decide) (by decide) (by omega) (by omega) d_CiteForge_init_28 ?_
  generalize hs76 : s_up sh46 (o + 157) (.inl (3, ts_Reader)) = sh75
  generalize hM78 : m_new M63 (o + 157) (fun j => if j = 0 ∨ j = 1 ∨ j = 2 ∨ j = 3 ∨ j = 4 ∨ j = 8 ∨ j = 11 then -1 else 0) = M77
  have hu79 : up (o + 157) sh46 M63 sh75 M77 := by rw [← hs76, ← hM78]; exact up.new
  have e80 : sh75 o = some (.inl (10, ts_CiteForge)) := hu79.s (by omega) e52
  have e81 : sh75 (o + 1) = some (.inr (.int, 10)) := hu79.s (by omega) e53
  have e82 : M77 o 2 < 0 := hu79.n (by omega) e65
  have e83 : M77 o 3 < 0 := hu79.n (by omega) e66
  have e84 : M77 o 4 < 0 := hu79.n (by omega) e67
  have e85 : M77 o 5 < 0 := hu79.n (by omega) e68
  have e86 : M77 o 6 < 0 := hu79.n (by omega) e69
  have e87 : M77 o 0 = o + 1 := hu79.m (by omega) e70
  have e88 : M77 o 1 = o + 2 := hu79.m (by omega) e73
  have rw89 : M77 (o + 1) = (fun _ => 0) := hu79.r (by omega) rw71
  have pd90 : shv sh75 M77 (o + 2) (o + 1) 0 (fun _ => sen0) := pd72.mv (hu79.as (by omega)) ((hu79 (o + 1) (by omega)).1)
  have up91 : up o sh M sh75 M77 := up74.tr hu79 (by omega)
  clear e52 e53 e65 e66 e67 e68 e69 e70 e73 pd72 rw71
  have e92 : sh75 (o + 157) = some (.inl (3, ts_Reader)) := by rw [← hs76, s_up_s]
  have rw93 : M77 (o + 157) = (fun j => if j = 0 ∨ j = 1 ∨ j = 2 ∨ j = 3 ∨ j = 4 ∨ j = 8 ∨ j = 11 then -1 else 0) := by rw [← hM78, m_new_s]
  clear hs76 hM78 hu79
  refine go_kn (k' := 157) (n' := 4113) (sz' := o + 158) (by omega) (by omega) (by omega) ?_
  refine go_dup X d_CiteForge_init_31 rfl ?_
  refine go_aload_n X d_CiteForge_init_32 rfl rfl ?_
  refine go_get (v := vr (o + 2)) X f_CiteForge_18 e80 rfl d_CiteForge_init_33 (s_vref e88 (by omega)) ?_
  refine go_aload_n X d_CiteForge_init_36 rfl rfl ?_
  refine go_get (v := vr (o + 1)) X f_CiteForge_9 e80 rfl d_CiteForge_init_37 (s_varr e87 (by omega)) ?_
  refine go_cI (st2 := []) (r := [vr (o + 157), vr o]) X k_CiteForge_24 (c_Reader_init l D e92 rw93 (by omega) (by omega) e81 (by omega) (by omega)) rfl rfl (by omega) (Nat.le_of_ble_eq_true rfl) d_CiteForge_init_40 (by omega) (by omega) (fun v sh94 M95 sz' hp => ?_)
  obtain ⟨e96, e97, hu98, pd99⟩ := hp
  subst e96
  refine go_kn (k' := 179) (n' := 5009) (sz' := o + 180) (by omega) (by omega) (by omega) ?_
  show Go g (179) (5009) sh94 M95 (o + 180) 43 [(0, vr o)] [vr (o + 157), vr o]
  have e100 : sh94 o = some (.inl (10, ts_CiteForge)) := hu98.s (by omega) e80
  have e101 : sh94 (o + 1) = some (.inr (.int, 10)) := hu98.s (by omega) e81
  have e102 : M95 o 2 < 0 := hu98.n (by omega) e82
  have e103 : M95 o 3 < 0 := hu98.n (by omega) e83
  have e104 : M95 o 4 < 0 := hu98.n (by omega) e84
  have e105 : M95 o 5 < 0 := hu98.n (by omega) e85
  have e106 : M95 o 6 < 0 := hu98.n (by omega) e86
  have e107 : M95 o 0 = o + 1 := hu98.m (by omega) e87
  have e108 : M95 o 1 = o + 2 := hu98.m (by omega) e88
  have rw109 : M95 (o + 1) = (fun _ => 0) := hu98.r (by omega) rw89
  have pd110 : shv sh94 M95 (o + 2) (o + 1) 0 (fun _ => sen0) := pd90.mv (hu98.as (by omega)) ((hu98 (o + 1) (by omega)).1)
  have up111 : up o sh M sh94 M95 := up91.tr hu98 (by omega)
  clear e80 e81 e82 e83 e84 e85 e86 e87 e88 e92 pd90 rw89 rw93
  clear hu98 e97
  refine go_putF (x := (o + 157)) (v := vr (o + 157)) X f_CiteForge_27 rfl e100 rfl d_CiteForge_init_43 (s_vref rfl (by omega)) rfl rfl f_CiteForge_27w ?_
  generalize hM113 : m_s M95 o 2 (o + 157) = M112
  have e114 : M112 o 3 < 0 := by rw [← hM113, m_s_n (fun q => absurd q.2 (by decide))]; exact e103
  have e115 : M112 o 4 < 0 := by rw [← hM113, m_s_n (fun q => absurd q.2 (by decide))]; exact e104
  have e116 : M112 o 5 < 0 := by rw [← hM113, m_s_n (fun q => absurd q.2 (by decide))]; exact e105
  have e117 : M112 o 6 < 0 := by rw [← hM113, m_s_n (fun q => absurd q.2 (by decide))]; exact e106
  have e118 : M112 o 0 = o + 1 := by rw [← hM113]; exact (m_s_n (fun q => absurd q.2 (by decide))).trans e107
  have e119 : M112 o 1 = o + 2 := by rw [← hM113]; exact (m_s_n (fun q => absurd q.2 (by decide))).trans e108
  have rw120 : M112 (o + 1) = (fun _ => 0) := by rw [← hM113]; exact (m_s_a (of_ne0 (by decide))).trans rw109
  have pd121 : shv sh94 M112 (o + 2) (o + 1) 0 (fun _ => sen0) := by rw [← hM113]; exact pd110.mv (as_set (by omega)) rfl
  have pd122 : rdv sh94 M112 (o + 157) (o + 2) (o + 1) 0 [] (fun _ => 0) (fun _ => []) [] := by rw [← hM113]; exact pd99.mv (as_set (by omega)) rfl
  have e123 : M112 o 2 = o + 157 := by rw [← hM113, m_s_s]
  have up124 : up o sh M sh94 M112 := by rw [← hM113]; exact up111.set (by omega)
  clear e102 e103 e104 e105 e106 e107 e108 pd110 pd99 rw109 up111 hM113
  refine go_aload_n X d_CiteForge_init_46 rfl rfl ?_
  refine go_new (ts := ts_Citations) (f := (fun j => if j = 0 ∨ j = 1 ∨ j = 2 ∨ j = 4 then -1 else 0)) X cls4_ok w_cl_CiteForge_31 w_in_4 w_ini_4 (by decide) (by decide) (by omega) (by omega) d_CiteForge_init_47 ?_
  generalize hs126 : s_up sh94 (o + 180) (.inl (4, ts_Citations)) = sh125
  generalize hM128 : m_new M112 (o + 180) (fun j => if j = 0 ∨ j = 1 ∨ j = 2 ∨ j = 4 then -1 else 0) = M127
  have hu129 : up (o + 180) sh94 M112 sh125 M127 := by rw [← hs126, ← hM128]; exact up.new
  have e130 : sh125 o = some (.inl (10, ts_CiteForge)) := hu129.s (by omega) e100
  have e131 : sh125 (o + 1) = some (.inr (.int, 10)) := hu129.s (by omega) e101
  have e132 : M127 o 3 < 0 := hu129.n (by omega) e114
  have e133 : M127 o 4 < 0 := hu129.n (by omega) e115
  have e134 : M127 o 5 < 0 := hu129.n (by omega) e116
  have e135 : M127 o 6 < 0 := hu129.n (by omega) e117
  have e136 : M127 o 0 = o + 1 := hu129.m (by omega) e118
  have e137 : M127 o 1 = o + 2 := hu129.m (by omega) e119
  have e138 : M127 o 2 = o + 157 := hu129.m (by omega) e123
  have rw139 : M127 (o + 1) = (fun _ => 0) := hu129.r (by omega) rw120
  have pd140 : shv sh125 M127 (o + 2) (o + 1) 0 (fun _ => sen0) := pd121.mv (hu129.as (by omega)) ((hu129 (o + 1) (by omega)).1)
  have pd141 : rdv sh125 M127 (o + 157) (o + 2) (o + 1) 0 [] (fun _ => 0) (fun _ => []) [] := pd122.mv (hu129.as (by omega)) ((hu129 (o + 1) (by omega)).1)
  have up142 : up o sh M sh125 M127 := up124.tr hu129 (by omega)
  clear e100 e101 e114 e115 e116 e117 e118 e119 e123 pd121 pd122 rw120
  have e143 : sh125 (o + 180) = some (.inl (4, ts_Citations)) := by rw [← hs126, s_up_s]
  have rw144 : M127 (o + 180) = (fun j => if j = 0 ∨ j = 1 ∨ j = 2 ∨ j = 4 then -1 else 0) := by rw [← hM128, m_new_s]
  clear hs126 hM128 hu129
  refine go_kn (k' := 180) (n' := 5015) (sz' := o + 181) (by omega) (by omega) (by omega) ?_
  refine go_dup X d_CiteForge_init_50 rfl ?_
  refine go_aload_n X d_CiteForge_init_51 rfl rfl ?_
  refine go_get (v := vr (o + 2)) X f_CiteForge_18 e130 rfl d_CiteForge_init_52 (s_vref e137 (by omega)) ?_
  refine go_aload_n X d_CiteForge_init_55 rfl rfl ?_
  refine go_get (v := vr (o + 1)) X f_CiteForge_9 e130 rfl d_CiteForge_init_56 (s_varr e136 (by omega)) ?_
  refine go_cI (st2 := []) (r := [vr (o + 180), vr o]) X k_CiteForge_33 (c_Citations_init l D e143 rw144 (by omega) (by omega) e131 (by omega) (by omega)) rfl rfl (by omega) (Nat.le_of_ble_eq_true rfl) d_CiteForge_init_59 (by omega) (by omega) (fun v sh145 M146 sz' hp => ?_)
  obtain ⟨e147, e148, hu149, pd150⟩ := hp
  subst e147
  refine go_kn (k' := 182) (n' := 5033) (sz' := o + 183) (by omega) (by omega) (by omega) ?_
  show Go g (182) (5033) sh145 M146 (o + 183) 62 [(0, vr o)] [vr (o + 180), vr o]
  have e151 : sh145 o = some (.inl (10, ts_CiteForge)) := hu149.s (by omega) e130
  have e152 : sh145 (o + 1) = some (.inr (.int, 10)) := hu149.s (by omega) e131
  have e153 : M146 o 3 < 0 := hu149.n (by omega) e132
  have e154 : M146 o 4 < 0 := hu149.n (by omega) e133
  have e155 : M146 o 5 < 0 := hu149.n (by omega) e134
  have e156 : M146 o 6 < 0 := hu149.n (by omega) e135
  have e157 : M146 o 0 = o + 1 := hu149.m (by omega) e136
  have e158 : M146 o 1 = o + 2 := hu149.m (by omega) e137
  have e159 : M146 o 2 = o + 157 := hu149.m (by omega) e138
  have rw160 : M146 (o + 1) = (fun _ => 0) := hu149.r (by omega) rw139
  have pd161 : shv sh145 M146 (o + 2) (o + 1) 0 (fun _ => sen0) := pd140.mv (hu149.as (by omega)) ((hu149 (o + 1) (by omega)).1)
  have pd162 : rdv sh145 M146 (o + 157) (o + 2) (o + 1) 0 [] (fun _ => 0) (fun _ => []) [] := pd141.mv (hu149.as (by omega)) ((hu149 (o + 1) (by omega)).1)
  have up163 : up o sh M sh145 M146 := up142.tr hu149 (by omega)
  clear e130 e131 e132 e133 e134 e135 e136 e137 e138 e143 pd140 pd141 rw139 rw144
  clear hu149 e148
  refine go_putF (x := (o + 180)) (v := vr (o + 180)) X f_CiteForge_34 rfl e151 rfl d_CiteForge_init_62 (s_vref rfl (by omega)) rfl rfl f_CiteForge_34w ?_
  generalize hM165 : m_s M146 o 3 (o + 180) = M164
  have e166 : M164 o 4 < 0 := by rw [← hM165, m_s_n (fun q => absurd q.2 (by decide))]; exact e154
  have e167 : M164 o 5 < 0 := by rw [← hM165, m_s_n (fun q => absurd q.2 (by decide))]; exact e155
  have e168 : M164 o 6 < 0 := by rw [← hM165, m_s_n (fun q => absurd q.2 (by decide))]; exact e156
  have e169 : M164 o 0 = o + 1 := by rw [← hM165]; exact (m_s_n (fun q => absurd q.2 (by decide))).trans e157
  have e170 : M164 o 1 = o + 2 := by rw [← hM165]; exact (m_s_n (fun q => absurd q.2 (by decide))).trans e158
  have e171 : M164 o 2 = o + 157 := by rw [← hM165]; exact (m_s_n (fun q => absurd q.2 (by decide))).trans e159
  have rw172 : M164 (o + 1) = (fun _ => 0) := by rw [← hM165]; exact (m_s_a (of_ne0 (by decide))).trans rw160
  have pd173 : shv sh145 M164 (o + 2) (o + 1) 0 (fun _ => sen0) := by rw [← hM165]; exact pd161.mv (as_set (by omega)) rfl
  have pd174 : rdv sh145 M164 (o + 157) (o + 2) (o + 1) 0 [] (fun _ => 0) (fun _ => []) [] := by rw [← hM165]; exact pd162.mv (as_set (by omega)) rfl
  have pd175 : civ sh145 M164 (o + 180) (o + 2) (o + 1) 0 0 (fun _ => 0) (fun _ => 0) := by rw [← hM165]; exact pd150.mv (as_set (by omega)) rfl
  have e176 : M164 o 3 = o + 180 := by rw [← hM165, m_s_s]
  have up177 : up o sh M sh145 M164 := by rw [← hM165]; exact up163.set (by omega)
  clear e153 e154 e155 e156 e157 e158 e159 pd150 pd161 pd162 rw160 up163 hM165
  refine go_aload_n X d_CiteForge_init_65 rfl rfl ?_
  refine go_new (ts := ts_Stack) (f := (fun j => if j = 0 ∨ j = 1 then -1 else 0)) X cls6_ok w_cl_CiteForge_38 w_in_6 w_ini_6 (by decide) (by decide) (by omega) (by omega) d_CiteForge_init_66 ?_
  generalize hs179 : s_up sh145 (o + 183) (.inl (6, ts_Stack)) = sh178
  generalize hM181 : m_new M164 (o + 183) (fun j => if j = 0 ∨ j = 1 then -1 else 0) = M180
  have hu182 : up (o + 183) sh145 M164 sh178 M180 := by rw [← hs179, ← hM181]; exact up.new
  have e183 : sh178 o = some (.inl (10, ts_CiteForge)) := hu182.s (by omega) e151
  have e184 : sh178 (o + 1) = some (.inr (.int, 10)) := hu182.s (by omega) e152
  have e185 : M180 o 4 < 0 := hu182.n (by omega) e166
  have e186 : M180 o 5 < 0 := hu182.n (by omega) e167
  have e187 : M180 o 6 < 0 := hu182.n (by omega) e168
  have e188 : M180 o 0 = o + 1 := hu182.m (by omega) e169
  have e189 : M180 o 1 = o + 2 := hu182.m (by omega) e170
  have e190 : M180 o 2 = o + 157 := hu182.m (by omega) e171
  have e191 : M180 o 3 = o + 180 := hu182.m (by omega) e176
  have rw192 : M180 (o + 1) = (fun _ => 0) := hu182.r (by omega) rw172
  have pd193 : shv sh178 M180 (o + 2) (o + 1) 0 (fun _ => sen0) := pd173.mv (hu182.as (by omega)) ((hu182 (o + 1) (by omega)).1)
  have pd194 : rdv sh178 M180 (o + 157) (o + 2) (o + 1) 0 [] (fun _ => 0) (fun _ => []) [] := pd174.mv (hu182.as (by omega)) ((hu182 (o + 1) (by omega)).1)
  have pd195 : civ sh178 M180 (o + 180) (o + 2) (o + 1) 0 0 (fun _ => 0) (fun _ => 0) := pd175.mv (hu182.as (by omega)) ((hu182 (o + 1) (by omega)).1)
  have up196 : up o sh M sh178 M180 := up177.tr hu182 (by omega)
  clear e151 e152 e166 e167 e168 e169 e170 e171 e176 pd173 pd174 pd175 rw172
  have e197 : sh178 (o + 183) = some (.inl (6, ts_Stack)) := by rw [← hs179, s_up_s]
  have rw198 : M180 (o + 183) = (fun j => if j = 0 ∨ j = 1 then -1 else 0) := by rw [← hM181, m_new_s]
  clear hs179 hM181 hu182
  refine go_kn (k' := 183) (n' := 5036) (sz' := o + 184) (by omega) (by omega) (by omega) ?_
  refine go_dup X d_CiteForge_init_69 rfl ?_
  refine go_aload_n X d_CiteForge_init_70 rfl rfl ?_
  refine go_get (v := vr (o + 1)) X f_CiteForge_9 e183 rfl d_CiteForge_init_71 (s_varr e188 (by omega)) ?_
  refine go_cI (st2 := []) (r := [vr (o + 183), vr o]) X k_CiteForge_40 (c_Stack_init l D e197 rw198 (by omega) (by omega) e184 (by omega)) rfl rfl (by omega) (Nat.le_of_ble_eq_true rfl) d_CiteForge_init_74 (by omega) (by omega) (fun v sh199 M200 sz' hp => ?_)
  obtain ⟨e201, e202, hu203, pd204⟩ := hp
  subst e201
  refine go_kn (k' := 220) (n' := 5828) (sz' := o + 221) (by omega) (by omega) (by omega) ?_
  show Go g (220) (5828) sh199 M200 (o + 221) 77 [(0, vr o)] [vr (o + 183), vr o]
  have e205 : sh199 o = some (.inl (10, ts_CiteForge)) := hu203.s (by omega) e183
  have e206 : sh199 (o + 1) = some (.inr (.int, 10)) := hu203.s (by omega) e184
  have e207 : M200 o 4 < 0 := hu203.n (by omega) e185
  have e208 : M200 o 5 < 0 := hu203.n (by omega) e186
  have e209 : M200 o 6 < 0 := hu203.n (by omega) e187
  have e210 : M200 o 0 = o + 1 := hu203.m (by omega) e188
  have e211 : M200 o 1 = o + 2 := hu203.m (by omega) e189
  have e212 : M200 o 2 = o + 157 := hu203.m (by omega) e190
  have e213 : M200 o 3 = o + 180 := hu203.m (by omega) e191
  have rw214 : M200 (o + 1) = (fun _ => 0) := hu203.r (by omega) rw192
  have pd215 : shv sh199 M200 (o + 2) (o + 1) 0 (fun _ => sen0) := pd193.mv (hu203.as (by omega)) ((hu203 (o + 1) (by omega)).1)
  have pd216 : rdv sh199 M200 (o + 157) (o + 2) (o + 1) 0 [] (fun _ => 0) (fun _ => []) [] := pd194.mv (hu203.as (by omega)) ((hu203 (o + 1) (by omega)).1)
  have pd217 : civ sh199 M200 (o + 180) (o + 2) (o + 1) 0 0 (fun _ => 0) (fun _ => 0) := pd195.mv (hu203.as (by omega)) ((hu203 (o + 1) (by omega)).1)
  have up218 : up o sh M sh199 M200 := up196.tr hu203 (by omega)
  clear e183 e184 e185 e186 e187 e188 e189 e190 e191 e197 pd193 pd194 pd195 rw192 rw198
  clear hu203 e202
  refine go_putF (x := (o + 183)) (v := vr (o + 183)) X f_CiteForge_41 rfl e205 rfl d_CiteForge_init_77 (s_vref rfl (by omega)) rfl rfl f_CiteForge_41w ?_
  generalize hM220 : m_s M200 o 4 (o + 183) = M219
  have e221 : M219 o 5 < 0 := by rw [← hM220, m_s_n (fun q => absurd q.2 (by decide))]; exact e208
  have e222 : M219 o 6 < 0 := by rw [← hM220, m_s_n (fun q => absurd q.2 (by decide))]; exact e209
  have e223 : M219 o 0 = o + 1 := by rw [← hM220]; exact (m_s_n (fun q => absurd q.2 (by decide))).trans e210
  have e224 : M219 o 1 = o + 2 := by rw [← hM220]; exact (m_s_n (fun q => absurd q.2 (by decide))).trans e211
  have e225 : M219 o 2 = o + 157 := by rw [← hM220]; exact (m_s_n (fun q => absurd q.2 (by decide))).trans e212
  have e226 : M219 o 3 = o + 180 := by rw [← hM220]; exact (m_s_n (fun q => absurd q.2 (by decide))).trans e213
  have rw227 : M219 (o + 1) = (fun _ => 0) := by rw [← hM220]; exact (m_s_a (of_ne0 (by decide))).trans rw214
  have pd228 : shv sh199 M219 (o + 2) (o + 1) 0 (fun _ => sen0) := by rw [← hM220]; exact pd215.mv (as_set (by omega)) rfl
  have pd229 : rdv sh199 M219 (o + 157) (o + 2) (o + 1) 0 [] (fun _ => 0) (fun _ => []) [] := by rw [← hM220]; exact pd216.mv (as_set (by omega)) rfl
  have pd230 : civ sh199 M219 (o + 180) (o + 2) (o + 1) 0 0 (fun _ => 0) (fun _ => 0) := by rw [← hM220]; exact pd217.mv (as_set (by omega)) rfl
  have pd231 : stv sh199 M219 (o + 183) (o + 1) 0 (fun _ => (0, 0, [])) := by rw [← hM220]; exact pd204.mv (as_set (by omega)) rfl
  have e232 : M219 o 4 = o + 183 := by rw [← hM220, m_s_s]
  have up233 : up o sh M sh199 M219 := by rw [← hM220]; exact up218.set (by omega)
  clear e207 e208 e209 e210 e211 e212 e213 pd204 pd215 pd216 pd217 rw214 up218 hM220
  refine go_aload_n X d_CiteForge_init_80 rfl rfl ?_
  refine go_new (ts := ts_Page) (f := (fun j => if j = 0 ∨ j = 1 then -1 else 0)) X cls8_ok w_cl_CiteForge_45 w_in_8 w_ini_8 (by decide) (by decide) (by omega) (by omega) d_CiteForge_init_81 ?_
  generalize hs235 : s_up sh199 (o + 221) (.inl (8, ts_Page)) = sh234
  generalize hM237 : m_new M219 (o + 221) (fun j => if j = 0 ∨ j = 1 then -1 else 0) = M236
  have hu238 : up (o + 221) sh199 M219 sh234 M236 := by rw [← hs235, ← hM237]; exact up.new
  have e239 : sh234 o = some (.inl (10, ts_CiteForge)) := hu238.s (by omega) e205
  have e240 : sh234 (o + 1) = some (.inr (.int, 10)) := hu238.s (by omega) e206
  have e241 : M236 o 5 < 0 := hu238.n (by omega) e221
  have e242 : M236 o 6 < 0 := hu238.n (by omega) e222
  have e243 : M236 o 0 = o + 1 := hu238.m (by omega) e223
  have e244 : M236 o 1 = o + 2 := hu238.m (by omega) e224
  have e245 : M236 o 2 = o + 157 := hu238.m (by omega) e225
  have e246 : M236 o 3 = o + 180 := hu238.m (by omega) e226
  have e247 : M236 o 4 = o + 183 := hu238.m (by omega) e232
  have rw248 : M236 (o + 1) = (fun _ => 0) := hu238.r (by omega) rw227
  have pd249 : shv sh234 M236 (o + 2) (o + 1) 0 (fun _ => sen0) := pd228.mv (hu238.as (by omega)) ((hu238 (o + 1) (by omega)).1)
  have pd250 : rdv sh234 M236 (o + 157) (o + 2) (o + 1) 0 [] (fun _ => 0) (fun _ => []) [] := pd229.mv (hu238.as (by omega)) ((hu238 (o + 1) (by omega)).1)
  have pd251 : civ sh234 M236 (o + 180) (o + 2) (o + 1) 0 0 (fun _ => 0) (fun _ => 0) := pd230.mv (hu238.as (by omega)) ((hu238 (o + 1) (by omega)).1)
  have pd252 : stv sh234 M236 (o + 183) (o + 1) 0 (fun _ => (0, 0, [])) := pd231.mv (hu238.as (by omega)) ((hu238 (o + 1) (by omega)).1)
  have up253 : up o sh M sh234 M236 := up233.tr hu238 (by omega)
  clear e205 e206 e221 e222 e223 e224 e225 e226 e232 pd228 pd229 pd230 pd231 rw227
  have e254 : sh234 (o + 221) = some (.inl (8, ts_Page)) := by rw [← hs235, s_up_s]
  have rw255 : M236 (o + 221) = (fun j => if j = 0 ∨ j = 1 then -1 else 0) := by rw [← hM237, m_new_s]
  clear hs235 hM237 hu238
  refine go_kn (k' := 221) (n' := 5831) (sz' := o + 222) (by omega) (by omega) (by omega) ?_
  refine go_dup X d_CiteForge_init_84 rfl ?_
  refine go_cI (st2 := []) (r := [vr (o + 221), vr o]) X k_CiteForge_47 (c_Page_init l D e254 rw255 (by omega) (by omega)) rfl rfl (by omega) (Nat.le_of_ble_eq_true rfl) d_CiteForge_init_85 (by omega) (by omega) (fun v sh256 M257 sz' hp => ?_)
  obtain ⟨e258, e259, hu260, pd261⟩ := hp
  subst e258
  refine go_kn (k' := 224) (n' := 6037) (sz' := o + 225) (by omega) (by omega) (by omega) ?_
  show Go g (224) (6037) sh256 M257 (o + 225) 88 [(0, vr o)] [vr (o + 221), vr o]
  have e262 : sh256 o = some (.inl (10, ts_CiteForge)) := hu260.s (by omega) e239
  have e263 : sh256 (o + 1) = some (.inr (.int, 10)) := hu260.s (by omega) e240
  have e264 : M257 o 5 < 0 := hu260.n (by omega) e241
  have e265 : M257 o 6 < 0 := hu260.n (by omega) e242
  have e266 : M257 o 0 = o + 1 := hu260.m (by omega) e243
  have e267 : M257 o 1 = o + 2 := hu260.m (by omega) e244
  have e268 : M257 o 2 = o + 157 := hu260.m (by omega) e245
  have e269 : M257 o 3 = o + 180 := hu260.m (by omega) e246
  have e270 : M257 o 4 = o + 183 := hu260.m (by omega) e247
  have rw271 : M257 (o + 1) = (fun _ => 0) := hu260.r (by omega) rw248
  have pd272 : shv sh256 M257 (o + 2) (o + 1) 0 (fun _ => sen0) := pd249.mv (hu260.as (by omega)) ((hu260 (o + 1) (by omega)).1)
  have pd273 : rdv sh256 M257 (o + 157) (o + 2) (o + 1) 0 [] (fun _ => 0) (fun _ => []) [] := pd250.mv (hu260.as (by omega)) ((hu260 (o + 1) (by omega)).1)
  have pd274 : civ sh256 M257 (o + 180) (o + 2) (o + 1) 0 0 (fun _ => 0) (fun _ => 0) := pd251.mv (hu260.as (by omega)) ((hu260 (o + 1) (by omega)).1)
  have pd275 : stv sh256 M257 (o + 183) (o + 1) 0 (fun _ => (0, 0, [])) := pd252.mv (hu260.as (by omega)) ((hu260 (o + 1) (by omega)).1)
  have up276 : up o sh M sh256 M257 := up253.tr hu260 (by omega)
  clear e239 e240 e241 e242 e243 e244 e245 e246 e247 e254 pd249 pd250 pd251 pd252 rw248 rw255
  clear hu260 e259
  refine go_putF (x := (o + 221)) (v := vr (o + 221)) X f_CiteForge_48 rfl e262 rfl d_CiteForge_init_88 (s_vref rfl (by omega)) rfl rfl f_CiteForge_48w ?_
  generalize hM278 : m_s M257 o 5 (o + 221) = M277
  have e279 : M277 o 6 < 0 := by rw [← hM278, m_s_n (fun q => absurd q.2 (by decide))]; exact e265
  have e280 : M277 o 0 = o + 1 := by rw [← hM278]; exact (m_s_n (fun q => absurd q.2 (by decide))).trans e266
  have e281 : M277 o 1 = o + 2 := by rw [← hM278]; exact (m_s_n (fun q => absurd q.2 (by decide))).trans e267
  have e282 : M277 o 2 = o + 157 := by rw [← hM278]; exact (m_s_n (fun q => absurd q.2 (by decide))).trans e268
  have e283 : M277 o 3 = o + 180 := by rw [← hM278]; exact (m_s_n (fun q => absurd q.2 (by decide))).trans e269
  have e284 : M277 o 4 = o + 183 := by rw [← hM278]; exact (m_s_n (fun q => absurd q.2 (by decide))).trans e270
  have rw285 : M277 (o + 1) = (fun _ => 0) := by rw [← hM278]; exact (m_s_a (of_ne0 (by decide))).trans rw271
  have pd286 : shv sh256 M277 (o + 2) (o + 1) 0 (fun _ => sen0) := by rw [← hM278]; exact pd272.mv (as_set (by omega)) rfl
  have pd287 : rdv sh256 M277 (o + 157) (o + 2) (o + 1) 0 [] (fun _ => 0) (fun _ => []) [] := by rw [← hM278]; exact pd273.mv (as_set (by omega)) rfl
  have pd288 : civ sh256 M277 (o + 180) (o + 2) (o + 1) 0 0 (fun _ => 0) (fun _ => 0) := by rw [← hM278]; exact pd274.mv (as_set (by omega)) rfl
  have pd289 : stv sh256 M277 (o + 183) (o + 1) 0 (fun _ => (0, 0, [])) := by rw [← hM278]; exact pd275.mv (as_set (by omega)) rfl
  have pd290 : pg0 sh256 M277 (o + 221) 0 [] := by rw [← hM278]; exact pd261.mv (as_set (by omega))
  have e291 : M277 o 5 = o + 221 := by rw [← hM278, m_s_s]
  have up292 : up o sh M sh256 M277 := by rw [← hM278]; exact up276.set (by omega)
  clear e264 e265 e266 e267 e268 e269 e270 pd261 pd272 pd273 pd274 pd275 rw271 up276 hM278
  refine go_aload_n X d_CiteForge_init_91 rfl rfl ?_
  refine go_new (ts := ts_Machine) (f := (fun j => if j = 0 ∨ j = 1 ∨ j = 2 ∨ j = 3 ∨ j = 4 ∨ j = 5 ∨ j = 6 ∨ j = 7 ∨ j = 8 ∨ j = 9 ∨ j = 10 ∨ j = 11 ∨ j = 12 ∨ j = 13 ∨ j = 14 ∨ j = 15 then -1 else 0)) X cls9_ok w_cl_CiteForge_52 w_in_9 w_ini_9 (by decide) (by decide) (by omega) (by omega) d_CiteForge_init_92 ?_
  generalize hs294 : s_up sh256 (o + 225) (.inl (9, ts_Machine)) = sh293
  generalize hM296 : m_new M277 (o + 225) (fun j => if j = 0 ∨ j = 1 ∨ j = 2 ∨ j = 3 ∨ j = 4 ∨ j = 5 ∨ j = 6 ∨ j = 7 ∨ j = 8 ∨ j = 9 ∨ j = 10 ∨ j = 11 ∨ j = 12 ∨ j = 13 ∨ j = 14 ∨ j = 15 then -1 else 0) = M295
  have hu297 : up (o + 225) sh256 M277 sh293 M295 := by rw [← hs294, ← hM296]; exact up.new
  have e298 : sh293 o = some (.inl (10, ts_CiteForge)) := hu297.s (by omega) e262
  have e299 : sh293 (o + 1) = some (.inr (.int, 10)) := hu297.s (by omega) e263
  have e300 : M295 o 6 < 0 := hu297.n (by omega) e279
  have e301 : M295 o 0 = o + 1 := hu297.m (by omega) e280
  have e302 : M295 o 1 = o + 2 := hu297.m (by omega) e281
  have e303 : M295 o 2 = o + 157 := hu297.m (by omega) e282
  have e304 : M295 o 3 = o + 180 := hu297.m (by omega) e283
  have e305 : M295 o 4 = o + 183 := hu297.m (by omega) e284
  have e306 : M295 o 5 = o + 221 := hu297.m (by omega) e291
  have rw307 : M295 (o + 1) = (fun _ => 0) := hu297.r (by omega) rw285
  have pd308 : shv sh293 M295 (o + 2) (o + 1) 0 (fun _ => sen0) := pd286.mv (hu297.as (by omega)) ((hu297 (o + 1) (by omega)).1)
  have pd309 : rdv sh293 M295 (o + 157) (o + 2) (o + 1) 0 [] (fun _ => 0) (fun _ => []) [] := pd287.mv (hu297.as (by omega)) ((hu297 (o + 1) (by omega)).1)
  have pd310 : civ sh293 M295 (o + 180) (o + 2) (o + 1) 0 0 (fun _ => 0) (fun _ => 0) := pd288.mv (hu297.as (by omega)) ((hu297 (o + 1) (by omega)).1)
  have pd311 : stv sh293 M295 (o + 183) (o + 1) 0 (fun _ => (0, 0, [])) := pd289.mv (hu297.as (by omega)) ((hu297 (o + 1) (by omega)).1)
  have pd312 : pg0 sh293 M295 (o + 221) 0 [] := pd290.mv (hu297.as (by omega))
  have up313 : up o sh M sh293 M295 := up292.tr hu297 (by omega)
  clear e262 e263 e279 e280 e281 e282 e283 e284 e291 pd286 pd287 pd288 pd289 pd290 rw285
  have e314 : sh293 (o + 225) = some (.inl (9, ts_Machine)) := by rw [← hs294, s_up_s]
  have rw315 : M295 (o + 225) = (fun j => if j = 0 ∨ j = 1 ∨ j = 2 ∨ j = 3 ∨ j = 4 ∨ j = 5 ∨ j = 6 ∨ j = 7 ∨ j = 8 ∨ j = 9 ∨ j = 10 ∨ j = 11 ∨ j = 12 ∨ j = 13 ∨ j = 14 ∨ j = 15 then -1 else 0) := by rw [← hM296, m_new_s]
  clear hs294 hM296 hu297
  refine go_kn (k' := 225) (n' := 6054) (sz' := o + 226) (by omega) (by omega) (by omega) ?_
  refine go_dup X d_CiteForge_init_95 rfl ?_
  refine go_aload_n X d_CiteForge_init_96 rfl rfl ?_
  refine go_get (v := vr (o + 2)) X f_CiteForge_18 e298 rfl d_CiteForge_init_97 (s_vref e302 (by omega)) ?_
  refine go_aload_n X d_CiteForge_init_100 rfl rfl ?_
  refine go_get (v := vr (o + 180)) X f_CiteForge_34 e298 rfl d_CiteForge_init_101 (s_vref e304 (by omega)) ?_
  refine go_aload_n X d_CiteForge_init_104 rfl rfl ?_
  refine go_get (v := vr (o + 183)) X f_CiteForge_41 e298 rfl d_CiteForge_init_105 (s_vref e305 (by omega)) ?_
  refine go_aload_n X d_CiteForge_init_108 rfl rfl ?_
  refine go_get (v := vr (o + 221)) X f_CiteForge_48 e298 rfl d_CiteForge_init_109 (s_vref e306 (by omega)) ?_
  refine go_aload_n X d_CiteForge_init_112 rfl rfl ?_
  refine go_get (v := vr (o + 1)) X f_CiteForge_9 e298 rfl d_CiteForge_init_113 (s_varr e301 (by omega)) ?_
  refine go_cI (st2 := []) (r := [vr (o + 225), vr o]) X k_CiteForge_54 (c_Machine_init l D e314 rw315 (by omega) (by omega) ⟨⟨by omega, by omega⟩, ⟨by omega, by omega⟩, by omega⟩) rfl rfl (by omega) (Nat.le_of_ble_eq_true rfl) d_CiteForge_init_116 (by omega) (by omega) (fun v sh316 M317 sz' hp => ?_)
  obtain ⟨e318, e319, hu320, pd321⟩ := hp
  subst e318
  refine go_kn (k' := 246) (n' := 6867) (sz' := o + 247) (by omega) (by omega) (by omega) ?_
  show Go g (246) (6867) sh316 M317 (o + 247) 119 [(0, vr o)] [vr (o + 225), vr o]
  have e322 : sh316 o = some (.inl (10, ts_CiteForge)) := hu320.s (by omega) e298
  have e323 : sh316 (o + 1) = some (.inr (.int, 10)) := hu320.s (by omega) e299
  have e324 : M317 o 6 < 0 := hu320.n (by omega) e300
  have e325 : M317 o 0 = o + 1 := hu320.m (by omega) e301
  have e326 : M317 o 1 = o + 2 := hu320.m (by omega) e302
  have e327 : M317 o 2 = o + 157 := hu320.m (by omega) e303
  have e328 : M317 o 3 = o + 180 := hu320.m (by omega) e304
  have e329 : M317 o 4 = o + 183 := hu320.m (by omega) e305
  have e330 : M317 o 5 = o + 221 := hu320.m (by omega) e306
  have rw331 : M317 (o + 1) = (fun _ => 0) := hu320.r (by omega) rw307
  have pd332 : shv sh316 M317 (o + 2) (o + 1) 0 (fun _ => sen0) := pd308.mv (hu320.as (by omega)) ((hu320 (o + 1) (by omega)).1)
  have pd333 : rdv sh316 M317 (o + 157) (o + 2) (o + 1) 0 [] (fun _ => 0) (fun _ => []) [] := pd309.mv (hu320.as (by omega)) ((hu320 (o + 1) (by omega)).1)
  have pd334 : civ sh316 M317 (o + 180) (o + 2) (o + 1) 0 0 (fun _ => 0) (fun _ => 0) := pd310.mv (hu320.as (by omega)) ((hu320 (o + 1) (by omega)).1)
  have pd335 : stv sh316 M317 (o + 183) (o + 1) 0 (fun _ => (0, 0, [])) := pd311.mv (hu320.as (by omega)) ((hu320 (o + 1) (by omega)).1)
  have pd336 : pg0 sh316 M317 (o + 221) 0 [] := pd312.mv (hu320.as (by omega))
  have up337 : up o sh M sh316 M317 := up313.tr hu320 (by omega)
  clear e298 e299 e300 e301 e302 e303 e304 e305 e306 e314 pd308 pd309 pd310 pd311 pd312 rw307 rw315
  clear hu320 e319
  refine go_putF (x := (o + 225)) (v := vr (o + 225)) X f_CiteForge_57 rfl e322 rfl d_CiteForge_init_119 (s_vref rfl (by omega)) rfl rfl f_CiteForge_57w ?_
  generalize hM339 : m_s M317 o 6 (o + 225) = M338
  have e340 : M338 o 0 = o + 1 := by rw [← hM339]; exact (m_s_n (fun q => absurd q.2 (by decide))).trans e325
  have e341 : M338 o 1 = o + 2 := by rw [← hM339]; exact (m_s_n (fun q => absurd q.2 (by decide))).trans e326
  have e342 : M338 o 2 = o + 157 := by rw [← hM339]; exact (m_s_n (fun q => absurd q.2 (by decide))).trans e327
  have e343 : M338 o 3 = o + 180 := by rw [← hM339]; exact (m_s_n (fun q => absurd q.2 (by decide))).trans e328
  have e344 : M338 o 4 = o + 183 := by rw [← hM339]; exact (m_s_n (fun q => absurd q.2 (by decide))).trans e329
  have e345 : M338 o 5 = o + 221 := by rw [← hM339]; exact (m_s_n (fun q => absurd q.2 (by decide))).trans e330
  have rw346 : M338 (o + 1) = (fun _ => 0) := by rw [← hM339]; exact (m_s_a (of_ne0 (by decide))).trans rw331
  have pd347 : shv sh316 M338 (o + 2) (o + 1) 0 (fun _ => sen0) := by rw [← hM339]; exact pd332.mv (as_set (by omega)) rfl
  have pd348 : rdv sh316 M338 (o + 157) (o + 2) (o + 1) 0 [] (fun _ => 0) (fun _ => []) [] := by rw [← hM339]; exact pd333.mv (as_set (by omega)) rfl
  have pd349 : civ sh316 M338 (o + 180) (o + 2) (o + 1) 0 0 (fun _ => 0) (fun _ => 0) := by rw [← hM339]; exact pd334.mv (as_set (by omega)) rfl
  have pd350 : stv sh316 M338 (o + 183) (o + 1) 0 (fun _ => (0, 0, [])) := by rw [← hM339]; exact pd335.mv (as_set (by omega)) rfl
  have pd351 : pg0 sh316 M338 (o + 221) 0 [] := by rw [← hM339]; exact pd336.mv (as_set (by omega))
  have pd352 : mcx sh316 M338 (o + 225) (o + 2) (o + 180) (o + 183) (o + 221) (o + 1) (fun _ => 0) (fun _ => 0) (fun _ => 0) (fun _ => 0) [] [] [] (0, 0, []) (0, 0, []) := by rw [← hM339]; exact pd321.mv (as_set (by omega))
  have e353 : M338 o 6 = o + 225 := by rw [← hM339, m_s_s]
  have up354 : up o sh M sh316 M338 := by rw [← hM339]; exact up337.set (by omega)
  clear e324 e325 e326 e327 e328 e329 e330 pd321 pd332 pd333 pd334 pd335 pd336 rw331 up337 hM339
  refine go_vret X d_CiteForge_init_122 rfl (by omega) (by omega) ?_
  exact ⟨rfl, rfl, up354, ⟨⟨e322, e340, e341, e342, e343, e344, e345, e353, h0⟩, e323, rw346, pd347, pd348, pd349, pd350, pd351, pd352⟩⟩
