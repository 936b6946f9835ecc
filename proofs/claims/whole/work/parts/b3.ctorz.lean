/-- People's rows, all 0 -/
def pez (sh : s_S) (M : s_M) (p : Int) : Prop := pev sh M p ∧ M (p + 1) = (fun _ => 0) ∧ M (p + 2) = (fun _ => 0) ∧ M (p + 3) = (fun _ => 0)
theorem pez.mv {sh sh' : s_S} {M M' : s_M} {p : Int} (h : pez sh M p) (hu : as_ p (p + 5) sh M sh' M') : pez sh' M' p := ⟨h.1.mv hu, (hu (p + 1) (by omega) (by omega)).2.trans h.2.1, (hu (p + 2) (by omega) (by omega)).2.trans h.2.2.1, (hu (p + 3) (by omega) (by omega)).2.trans h.2.2.2⟩
def mcz (sh : s_S) (M : s_M) (p s c k g w : Int) : Prop := mcx sh M p s c k g w (fun _ => 0) (fun _ => 0) (fun _ => 0) (fun _ => 0) [] [] [] (0, 0, []) (0, 0, []) ∧ pez sh M (p + 1) ∧ M p 15 = -1
theorem mcz.mv {sh sh' : s_S} {M M' : s_M} {p s c k g w : Int} (h : mcz sh M p s c k g w) (hu : as_ p (p + 22) sh M sh' M') : mcz sh' M' p s c k g w := ⟨h.1.mv hu, h.2.1.mv (fun z a b => hu z (by omega) (by omega)), (congrFun (hu p (by omega) (by omega)).2 15).trans h.2.2⟩
def cfz (sh : s_S) (M : s_M) (o : Int) : Prop := cf0 sh M o ∧ pez sh M (o + 225 + 1) ∧ M (o + 225) 15 = -1
theorem cfz.mv {sh sh' : s_S} {M M' : s_M} {o : Int} (h : cfz sh M o) (hu : as_ o (o + 247) sh M sh' M') : cfz sh' M' o := ⟨h.1.mv hu, h.2.1.mv (fun z a b => hu z (by omega) (by omega)), (congrFun (hu (o + 225) (by omega) (by omega)).2 15).trans h.2.2⟩
set_option maxHeartbeats 4000000 in
set_option maxRecDepth 100000 in
theorem c_People_initZ (l : Launch) (D : va_G) {sh : s_S} {M : s_M} {sz a : Int} (hs : sh a = some (.inl (7, ts_People))) (hM : M a = (fun j => if j = 2 ∨ j = 3 ∨ j = 4 ∨ j = 6 then -1 else 0)) (h0 : 0 ≤ a) (hz : sz = a + 1) : Sp l D y_People_init prog_7_method_1_code 1 none 2 4 183 [vr a] sh M sz (fun v sh' M' sz' => v = none ∧ sz' = a + 5 ∧ up a sh M sh' M' ∧ pez sh' M' a) := by
  subst hz
  have hup := up.rf (a := a) (sh := sh) (M := M)
  have d0 : M a 0 = 0 := by rw [hM]; decide
  have d1 : M a 1 = 0 := by rw [hM]; decide
  have d2 : M a 2 < 0 := by rw [hM]; decide
  have d3 : M a 3 < 0 := by rw [hM]; decide
  have d4 : M a 4 < 0 := by rw [hM]; decide
  have d5 : M a 5 = 0 := by rw [hM]; decide
  have d6 : M a 6 < 0 := by rw [hM]; decide
  have d7 : M a 7 = 0 := by rw [hM]; decide
  have d8 : M a 8 = 0 := by rw [hM]; decide
  have d9 : M a 9 = 0 := by rw [hM]; decide
  have d10 : M a 10 = 0 := by rw [hM]; decide
  have d11 : M a 11 = 0 := by rw [hM]; decide
  have d12 : M a 12 = 0 := by rw [hM]; decide
  have d13 : M a 13 = 0 := by rw [hM]; decide
  have d14 : M a 14 = 0 := by rw [hM]; decide
  have d15 : M a 15 = 0 := by rw [hM]; decide
  refine Sp.ofGo (own := "CiteForge$People") (nm := "<init>") (by decide) rfl rfl (Nat.le_of_ble_eq_true rfl) (lv := [(0, vr a)]) rfl ?_
  intro g X
  refine go_aload_n X d_People_init_0 rfl rfl ?_
  refine go_objInit X w_oi_People w_oi2 w_oi3 (by omega) (Nat.le_of_ble_eq_true rfl) d_People_init_1 ?_
  refine go_aload_n X d_People_init_4 rfl rfl ?_
  refine go_bipush (v := 60) X d_People_init_5 (by decide) ?_
  refine go_newa (N := 60) (ty := .int) X w_ac_int rfl (by simp) (by omega) (by omega) (by omega) d_People_init_7 ?_
  generalize hs2 : s_up sh (a + 1) (.inr (.int, 60)) = sh1
  generalize hM4 : m_new M (a + 1) (fun _ => 0) = M3
  have hu5 : up (a + 1) sh M sh1 M3 := by rw [← hs2, ← hM4]; exact up.new
  have e6 : sh1 a = some (.inl (7, ts_People)) := hu5.s (by omega) hs
  have e7 : M3 a 0 = 0 := hu5.m (by omega) d0
  have e8 : M3 a 1 = 0 := hu5.m (by omega) d1
  have e9 : M3 a 2 < 0 := hu5.n (by omega) d2
  have e10 : M3 a 3 < 0 := hu5.n (by omega) d3
  have e11 : M3 a 4 < 0 := hu5.n (by omega) d4
  have e12 : M3 a 5 = 0 := hu5.m (by omega) d5
  have e13 : M3 a 6 < 0 := hu5.n (by omega) d6
  have e14 : M3 a 7 = 0 := hu5.m (by omega) d7
  have e15 : M3 a 8 = 0 := hu5.m (by omega) d8
  have e16 : M3 a 9 = 0 := hu5.m (by omega) d9
  have e17 : M3 a 10 = 0 := hu5.m (by omega) d10
  have e18 : M3 a 11 = 0 := hu5.m (by omega) d11
  have e19 : M3 a 12 = 0 := hu5.m (by omega) d12
  have e20 : M3 a 13 = 0 := hu5.m (by omega) d13
  have e21 : M3 a 14 = 0 := hu5.m (by omega) d14
  have e22 : M3 a 15 = 0 := hu5.m (by omega) d15
  have up23 : up a sh M sh1 M3 := hup.tr hu5 (by omega)
  have e24 : sh1 (a + 1) = some (.inr (.int, 60)) := by rw [← hs2, s_up_s]
  have rw25 : M3 (a + 1) = (fun _ => 0) := by rw [← hM4, m_new_s]
  clear hs2 hM4 hu5
  refine go_kn (k' := 1) (n' := 60) (sz' := a + 2) (by omega) (by omega) (by omega) ?_
  refine go_putF (x := (a + 1)) (v := vr (a + 1)) X f_People_9 rfl e6 rfl d_People_init_9 (s_varr rfl (by omega)) rfl rfl f_People_9w ?_
  generalize hM27 : m_s M3 a 2 (a + 1) = M26
  have e28 : M26 a 0 = 0 := by rw [← hM27]; exact (m_s_n (fun q => absurd q.2 (by decide))).trans e7
  have e29 : M26 a 1 = 0 := by rw [← hM27]; exact (m_s_n (fun q => absurd q.2 (by decide))).trans e8
  have e30 : M26 a 3 < 0 := by rw [← hM27, m_s_n (fun q => absurd q.2 (by decide))]; exact e10
  have e31 : M26 a 4 < 0 := by rw [← hM27, m_s_n (fun q => absurd q.2 (by decide))]; exact e11
  have e32 : M26 a 5 = 0 := by rw [← hM27]; exact (m_s_n (fun q => absurd q.2 (by decide))).trans e12
  have e33 : M26 a 6 < 0 := by rw [← hM27, m_s_n (fun q => absurd q.2 (by decide))]; exact e13
  have e34 : M26 a 7 = 0 := by rw [← hM27]; exact (m_s_n (fun q => absurd q.2 (by decide))).trans e14
  have e35 : M26 a 8 = 0 := by rw [← hM27]; exact (m_s_n (fun q => absurd q.2 (by decide))).trans e15
  have e36 : M26 a 9 = 0 := by rw [← hM27]; exact (m_s_n (fun q => absurd q.2 (by decide))).trans e16
  have e37 : M26 a 10 = 0 := by rw [← hM27]; exact (m_s_n (fun q => absurd q.2 (by decide))).trans e17
  have e38 : M26 a 11 = 0 := by rw [← hM27]; exact (m_s_n (fun q => absurd q.2 (by decide))).trans e18
  have e39 : M26 a 12 = 0 := by rw [← hM27]; exact (m_s_n (fun q => absurd q.2 (by decide))).trans e19
  have e40 : M26 a 13 = 0 := by rw [← hM27]; exact (m_s_n (fun q => absurd q.2 (by decide))).trans e20
  have e41 : M26 a 14 = 0 := by rw [← hM27]; exact (m_s_n (fun q => absurd q.2 (by decide))).trans e21
  have e42 : M26 a 15 = 0 := by rw [← hM27]; exact (m_s_n (fun q => absurd q.2 (by decide))).trans e22
  have rw43 : M26 (a + 1) = (fun _ => 0) := by rw [← hM27]; exact (m_s_a (of_ne0 (by decide))).trans rw25
  have e44 : M26 a 2 = a + 1 := by rw [← hM27, m_s_s]
  have up45 : up a sh M sh1 M26 := by rw [← hM27]; exact up23.set (by omega)
  clear e10 e11 e12 e13 e14 e15 e16 e17 e18 e19 e20 e21 e22 e7 e8 e9 rw25 up23 hM27
  refine go_aload_n X d_People_init_12 rfl rfl ?_
  refine go_bipush (v := 60) X d_People_init_13 (by decide) ?_
  refine go_newa (N := 60) (ty := .int) X w_ac_int rfl (by simp) (by omega) (by omega) (by omega) d_People_init_15 ?_
  generalize hs47 : s_up sh1 (a + 2) (.inr (.int, 60)) = sh46
  generalize hM49 : m_new M26 (a + 2) (fun _ => 0) = M48
  have hu50 : up (a + 2) sh1 M26 sh46 M48 := by rw [← hs47, ← hM49]; exact up.new
  have e51 : sh46 a = some (.inl (7, ts_People)) := hu50.s (by omega) e6
  have e52 : sh46 (a + 1) = some (.inr (.int, 60)) := hu50.s (by omega) e24
  have e53 : M48 a 0 = 0 := hu50.m (by omega) e28
  have e54 : M48 a 1 = 0 := hu50.m (by omega) e29
  have e55 : M48 a 3 < 0 := hu50.n (by omega) e30
  have e56 : M48 a 4 < 0 := hu50.n (by omega) e31
  have e57 : M48 a 5 = 0 := hu50.m (by omega) e32
  have e58 : M48 a 6 < 0 := hu50.n (by omega) e33
  have e59 : M48 a 7 = 0 := hu50.m (by omega) e34
  have e60 : M48 a 8 = 0 := hu50.m (by omega) e35
  have e61 : M48 a 9 = 0 := hu50.m (by omega) e36
  have e62 : M48 a 10 = 0 := hu50.m (by omega) e37
  have e63 : M48 a 11 = 0 := hu50.m (by omega) e38
  have e64 : M48 a 12 = 0 := hu50.m (by omega) e39
  have e65 : M48 a 13 = 0 := hu50.m (by omega) e40
  have e66 : M48 a 14 = 0 := hu50.m (by omega) e41
  have e67 : M48 a 15 = 0 := hu50.m (by omega) e42
  have e68 : M48 a 2 = a + 1 := hu50.m (by omega) e44
  have rw69 : M48 (a + 1) = (fun _ => 0) := hu50.r (by omega) rw43
  have up70 : up a sh M sh46 M48 := up45.tr hu50 (by omega)
  clear e24 e28 e29 e30 e31 e32 e33 e34 e35 e36 e37 e38 e39 e40 e41 e42 e44 e6 rw43
  have e71 : sh46 (a + 2) = some (.inr (.int, 60)) := by rw [← hs47, s_up_s]
  have rw72 : M48 (a + 2) = (fun _ => 0) := by rw [← hM49, m_new_s]
  clear hs47 hM49 hu50
  refine go_kn (k' := 2) (n' := 120) (sz' := a + 3) (by omega) (by omega) (by omega) ?_
  refine go_putF (x := (a + 2)) (v := vr (a + 2)) X f_People_15 rfl e51 rfl d_People_init_17 (s_varr rfl (by omega)) rfl rfl f_People_15w ?_
  generalize hM74 : m_s M48 a 3 (a + 2) = M73
  have e75 : M73 a 0 = 0 := by rw [← hM74]; exact (m_s_n (fun q => absurd q.2 (by decide))).trans e53
  have e76 : M73 a 1 = 0 := by rw [← hM74]; exact (m_s_n (fun q => absurd q.2 (by decide))).trans e54
  have e77 : M73 a 4 < 0 := by rw [← hM74, m_s_n (fun q => absurd q.2 (by decide))]; exact e56
  have e78 : M73 a 5 = 0 := by rw [← hM74]; exact (m_s_n (fun q => absurd q.2 (by decide))).trans e57
  have e79 : M73 a 6 < 0 := by rw [← hM74, m_s_n (fun q => absurd q.2 (by decide))]; exact e58
  have e80 : M73 a 7 = 0 := by rw [← hM74]; exact (m_s_n (fun q => absurd q.2 (by decide))).trans e59
  have e81 : M73 a 8 = 0 := by rw [← hM74]; exact (m_s_n (fun q => absurd q.2 (by decide))).trans e60
  have e82 : M73 a 9 = 0 := by rw [← hM74]; exact (m_s_n (fun q => absurd q.2 (by decide))).trans e61
  have e83 : M73 a 10 = 0 := by rw [← hM74]; exact (m_s_n (fun q => absurd q.2 (by decide))).trans e62
  have e84 : M73 a 11 = 0 := by rw [← hM74]; exact (m_s_n (fun q => absurd q.2 (by decide))).trans e63
  have e85 : M73 a 12 = 0 := by rw [← hM74]; exact (m_s_n (fun q => absurd q.2 (by decide))).trans e64
  have e86 : M73 a 13 = 0 := by rw [← hM74]; exact (m_s_n (fun q => absurd q.2 (by decide))).trans e65
  have e87 : M73 a 14 = 0 := by rw [← hM74]; exact (m_s_n (fun q => absurd q.2 (by decide))).trans e66
  have e88 : M73 a 15 = 0 := by rw [← hM74]; exact (m_s_n (fun q => absurd q.2 (by decide))).trans e67
  have e89 : M73 a 2 = a + 1 := by rw [← hM74]; exact (m_s_n (fun q => absurd q.2 (by decide))).trans e68
  have rw90 : M73 (a + 1) = (fun _ => 0) := by rw [← hM74]; exact (m_s_a (of_ne0 (by decide))).trans rw69
  have rw91 : M73 (a + 2) = (fun _ => 0) := by rw [← hM74]; exact (m_s_a (of_ne0 (by decide))).trans rw72
  have e92 : M73 a 3 = a + 2 := by rw [← hM74, m_s_s]
  have up93 : up a sh M sh46 M73 := by rw [← hM74]; exact up70.set (by omega)
  clear e53 e54 e55 e56 e57 e58 e59 e60 e61 e62 e63 e64 e65 e66 e67 e68 rw69 rw72 up70 hM74
  refine go_aload_n X d_People_init_20 rfl rfl ?_
  refine go_bipush (v := 60) X d_People_init_21 (by decide) ?_
  refine go_newa (N := 60) (ty := .boolean) X w_ac_boolean rfl (by simp) (by omega) (by omega) (by omega) d_People_init_23 ?_
  generalize hs95 : s_up sh46 (a + 3) (.inr (.boolean, 60)) = sh94
  generalize hM97 : m_new M73 (a + 3) (fun _ => 0) = M96
  have hu98 : up (a + 3) sh46 M73 sh94 M96 := by rw [← hs95, ← hM97]; exact up.new
  have e99 : sh94 a = some (.inl (7, ts_People)) := hu98.s (by omega) e51
  have e100 : sh94 (a + 1) = some (.inr (.int, 60)) := hu98.s (by omega) e52
  have e101 : sh94 (a + 2) = some (.inr (.int, 60)) := hu98.s (by omega) e71
  have e102 : M96 a 0 = 0 := hu98.m (by omega) e75
  have e103 : M96 a 1 = 0 := hu98.m (by omega) e76
  have e104 : M96 a 4 < 0 := hu98.n (by omega) e77
  have e105 : M96 a 5 = 0 := hu98.m (by omega) e78
  have e106 : M96 a 6 < 0 := hu98.n (by omega) e79
  have e107 : M96 a 7 = 0 := hu98.m (by omega) e80
  have e108 : M96 a 8 = 0 := hu98.m (by omega) e81
  have e109 : M96 a 9 = 0 := hu98.m (by omega) e82
  have e110 : M96 a 10 = 0 := hu98.m (by omega) e83
  have e111 : M96 a 11 = 0 := hu98.m (by omega) e84
  have e112 : M96 a 12 = 0 := hu98.m (by omega) e85
  have e113 : M96 a 13 = 0 := hu98.m (by omega) e86
  have e114 : M96 a 14 = 0 := hu98.m (by omega) e87
  have e115 : M96 a 15 = 0 := hu98.m (by omega) e88
  have e116 : M96 a 2 = a + 1 := hu98.m (by omega) e89
  have e117 : M96 a 3 = a + 2 := hu98.m (by omega) e92
  have rw118 : M96 (a + 1) = (fun _ => 0) := hu98.r (by omega) rw90
  have rw119 : M96 (a + 2) = (fun _ => 0) := hu98.r (by omega) rw91
  have up120 : up a sh M sh94 M96 := up93.tr hu98 (by omega)
  clear e51 e52 e71 e75 e76 e77 e78 e79 e80 e81 e82 e83 e84 e85 e86 e87 e88 e89 e92 rw90 rw91
  have e121 : sh94 (a + 3) = some (.inr (.boolean, 60)) := by rw [← hs95, s_up_s]
  have rw122 : M96 (a + 3) = (fun _ => 0) := by rw [← hM97, m_new_s]
  clear hs95 hM97 hu98
  refine go_kn (k' := 3) (n' := 180) (sz' := a + 4) (by omega) (by omega) (by omega) ?_
  refine go_putF (x := (a + 3)) (v := vr (a + 3)) X f_People_18 rfl e99 rfl d_People_init_25 (s_varr rfl (by omega)) rfl rfl f_People_18w ?_
  generalize hM124 : m_s M96 a 4 (a + 3) = M123
  have e125 : M123 a 0 = 0 := by rw [← hM124]; exact (m_s_n (fun q => absurd q.2 (by decide))).trans e102
  have e126 : M123 a 1 = 0 := by rw [← hM124]; exact (m_s_n (fun q => absurd q.2 (by decide))).trans e103
  have e127 : M123 a 5 = 0 := by rw [← hM124]; exact (m_s_n (fun q => absurd q.2 (by decide))).trans e105
  have e128 : M123 a 6 < 0 := by rw [← hM124, m_s_n (fun q => absurd q.2 (by decide))]; exact e106
  have e129 : M123 a 7 = 0 := by rw [← hM124]; exact (m_s_n (fun q => absurd q.2 (by decide))).trans e107
  have e130 : M123 a 8 = 0 := by rw [← hM124]; exact (m_s_n (fun q => absurd q.2 (by decide))).trans e108
  have e131 : M123 a 9 = 0 := by rw [← hM124]; exact (m_s_n (fun q => absurd q.2 (by decide))).trans e109
  have e132 : M123 a 10 = 0 := by rw [← hM124]; exact (m_s_n (fun q => absurd q.2 (by decide))).trans e110
  have e133 : M123 a 11 = 0 := by rw [← hM124]; exact (m_s_n (fun q => absurd q.2 (by decide))).trans e111
  have e134 : M123 a 12 = 0 := by rw [← hM124]; exact (m_s_n (fun q => absurd q.2 (by decide))).trans e112
  have e135 : M123 a 13 = 0 := by rw [← hM124]; exact (m_s_n (fun q => absurd q.2 (by decide))).trans e113
  have e136 : M123 a 14 = 0 := by rw [← hM124]; exact (m_s_n (fun q => absurd q.2 (by decide))).trans e114
  have e137 : M123 a 15 = 0 := by rw [← hM124]; exact (m_s_n (fun q => absurd q.2 (by decide))).trans e115
  have e138 : M123 a 2 = a + 1 := by rw [← hM124]; exact (m_s_n (fun q => absurd q.2 (by decide))).trans e116
  have e139 : M123 a 3 = a + 2 := by rw [← hM124]; exact (m_s_n (fun q => absurd q.2 (by decide))).trans e117
  have rw140 : M123 (a + 1) = (fun _ => 0) := by rw [← hM124]; exact (m_s_a (of_ne0 (by decide))).trans rw118
  have rw141 : M123 (a + 2) = (fun _ => 0) := by rw [← hM124]; exact (m_s_a (of_ne0 (by decide))).trans rw119
  have rw142 : M123 (a + 3) = (fun _ => 0) := by rw [← hM124]; exact (m_s_a (of_ne0 (by decide))).trans rw122
  have e143 : M123 a 4 = a + 3 := by rw [← hM124, m_s_s]
  have up144 : up a sh M sh94 M123 := by rw [← hM124]; exact up120.set (by omega)
  clear e102 e103 e104 e105 e106 e107 e108 e109 e110 e111 e112 e113 e114 e115 e116 e117 rw118 rw119 rw122 up120 hM124
  refine go_aload_n X d_People_init_28 rfl rfl ?_
  refine go_iconst (v := 3) X d_People_init_29 ?_
  refine go_newa (N := 3) (ty := .int) X w_ac_int rfl (by simp) (by omega) (by omega) (by omega) d_People_init_30 ?_
  generalize hs146 : s_up sh94 (a + 4) (.inr (.int, 3)) = sh145
  generalize hM148 : m_new M123 (a + 4) (fun _ => 0) = M147
  have hu149 : up (a + 4) sh94 M123 sh145 M147 := by rw [← hs146, ← hM148]; exact up.new
  have e150 : sh145 a = some (.inl (7, ts_People)) := hu149.s (by omega) e99
  have e151 : sh145 (a + 1) = some (.inr (.int, 60)) := hu149.s (by omega) e100
  have e152 : sh145 (a + 2) = some (.inr (.int, 60)) := hu149.s (by omega) e101
  have e153 : sh145 (a + 3) = some (.inr (.boolean, 60)) := hu149.s (by omega) e121
  have e154 : M147 a 0 = 0 := hu149.m (by omega) e125
  have e155 : M147 a 1 = 0 := hu149.m (by omega) e126
  have e156 : M147 a 5 = 0 := hu149.m (by omega) e127
  have e157 : M147 a 6 < 0 := hu149.n (by omega) e128
  have e158 : M147 a 7 = 0 := hu149.m (by omega) e129
  have e159 : M147 a 8 = 0 := hu149.m (by omega) e130
  have e160 : M147 a 9 = 0 := hu149.m (by omega) e131
  have e161 : M147 a 10 = 0 := hu149.m (by omega) e132
  have e162 : M147 a 11 = 0 := hu149.m (by omega) e133
  have e163 : M147 a 12 = 0 := hu149.m (by omega) e134
  have e164 : M147 a 13 = 0 := hu149.m (by omega) e135
  have e165 : M147 a 14 = 0 := hu149.m (by omega) e136
  have e166 : M147 a 15 = 0 := hu149.m (by omega) e137
  have e167 : M147 a 2 = a + 1 := hu149.m (by omega) e138
  have e168 : M147 a 3 = a + 2 := hu149.m (by omega) e139
  have e169 : M147 a 4 = a + 3 := hu149.m (by omega) e143
  have rw170 : M147 (a + 1) = (fun _ => 0) := hu149.r (by omega) rw140
  have rw171 : M147 (a + 2) = (fun _ => 0) := hu149.r (by omega) rw141
  have rw172 : M147 (a + 3) = (fun _ => 0) := hu149.r (by omega) rw142
  have up173 : up a sh M sh145 M147 := up144.tr hu149 (by omega)
  clear e100 e101 e121 e125 e126 e127 e128 e129 e130 e131 e132 e133 e134 e135 e136 e137 e138 e139 e143 e99 rw140 rw141 rw142
  have e174 : sh145 (a + 4) = some (.inr (.int, 3)) := by rw [← hs146, s_up_s]
  have rw175 : M147 (a + 4) = (fun _ => 0) := by rw [← hM148, m_new_s]
  clear hs146 hM148 hu149
  refine go_kn (k' := 4) (n' := 183) (sz' := a + 5) (by omega) (by omega) (by omega) ?_
  refine go_putF (x := (a + 4)) (v := vr (a + 4)) X f_People_22 rfl e150 rfl d_People_init_32 (s_varr rfl (by omega)) rfl rfl f_People_22w ?_
  generalize hM177 : m_s M147 a 6 (a + 4) = M176
  have e178 : M176 a 0 = 0 := by rw [← hM177]; exact (m_s_n (fun q => absurd q.2 (by decide))).trans e154
  have e179 : M176 a 1 = 0 := by rw [← hM177]; exact (m_s_n (fun q => absurd q.2 (by decide))).trans e155
  have e180 : M176 a 5 = 0 := by rw [← hM177]; exact (m_s_n (fun q => absurd q.2 (by decide))).trans e156
  have e181 : M176 a 7 = 0 := by rw [← hM177]; exact (m_s_n (fun q => absurd q.2 (by decide))).trans e158
  have e182 : M176 a 8 = 0 := by rw [← hM177]; exact (m_s_n (fun q => absurd q.2 (by decide))).trans e159
  have e183 : M176 a 9 = 0 := by rw [← hM177]; exact (m_s_n (fun q => absurd q.2 (by decide))).trans e160
  have e184 : M176 a 10 = 0 := by rw [← hM177]; exact (m_s_n (fun q => absurd q.2 (by decide))).trans e161
  have e185 : M176 a 11 = 0 := by rw [← hM177]; exact (m_s_n (fun q => absurd q.2 (by decide))).trans e162
  have e186 : M176 a 12 = 0 := by rw [← hM177]; exact (m_s_n (fun q => absurd q.2 (by decide))).trans e163
  have e187 : M176 a 13 = 0 := by rw [← hM177]; exact (m_s_n (fun q => absurd q.2 (by decide))).trans e164
  have e188 : M176 a 14 = 0 := by rw [← hM177]; exact (m_s_n (fun q => absurd q.2 (by decide))).trans e165
  have e189 : M176 a 15 = 0 := by rw [← hM177]; exact (m_s_n (fun q => absurd q.2 (by decide))).trans e166
  have e190 : M176 a 2 = a + 1 := by rw [← hM177]; exact (m_s_n (fun q => absurd q.2 (by decide))).trans e167
  have e191 : M176 a 3 = a + 2 := by rw [← hM177]; exact (m_s_n (fun q => absurd q.2 (by decide))).trans e168
  have e192 : M176 a 4 = a + 3 := by rw [← hM177]; exact (m_s_n (fun q => absurd q.2 (by decide))).trans e169
  have rw193 : M176 (a + 1) = (fun _ => 0) := by rw [← hM177]; exact (m_s_a (of_ne0 (by decide))).trans rw170
  have rw194 : M176 (a + 2) = (fun _ => 0) := by rw [← hM177]; exact (m_s_a (of_ne0 (by decide))).trans rw171
  have rw195 : M176 (a + 3) = (fun _ => 0) := by rw [← hM177]; exact (m_s_a (of_ne0 (by decide))).trans rw172
  have rw196 : M176 (a + 4) = (fun _ => 0) := by rw [← hM177]; exact (m_s_a (of_ne0 (by decide))).trans rw175
  have e197 : M176 a 6 = a + 4 := by rw [← hM177, m_s_s]
  have up198 : up a sh M sh145 M176 := by rw [← hM177]; exact up173.set (by omega)
  clear e154 e155 e156 e157 e158 e159 e160 e161 e162 e163 e164 e165 e166 e167 e168 e169 rw170 rw171 rw172 rw175 up173 hM177
  refine go_vret X d_People_init_35 rfl (by omega) (by omega) ?_
  exact ⟨rfl, rfl, up198, ⟨e150, e151, e152, e153, e174, e190, e191, e192, e197, h0⟩, rw193, rw194, rw195⟩
set_option maxHeartbeats 4000000 in
set_option maxRecDepth 100000 in
theorem c_Machine_initZ (l : Launch) (D : va_G) {sh : s_S} {M : s_M} {sz a : Int} (hs : sh a = some (.inl (9, ts_Machine))) (hM : M a = (fun j => if j = 0 ∨ j = 1 ∨ j = 2 ∨ j = 3 ∨ j = 4 ∨ j = 5 ∨ j = 6 ∨ j = 7 ∨ j = 8 ∨ j = 9 ∨ j = 10 ∨ j = 11 ∨ j = 12 ∨ j = 13 ∨ j = 14 ∨ j = 15 then -1 else 0)) (h0 : 0 ≤ a) (hz : sz = a + 1) {s c k g_ w : Int} (ha : (0 ≤ s ∧ 0 ≤ c) ∧ (0 ≤ k ∧ 0 ≤ g_) ∧ 0 ≤ w) : Sp l D y_Machine_init prog_5_method_1_code 6 none 4 21 813 [vr a, vr s, vr c, vr k, vr g_, vr w] sh M sz (fun v sh' M' sz' => v = none ∧ sz' = a + 22 ∧ up a sh M sh' M' ∧ mcz sh' M' a s c k g_ w) := by
  subst hz
  have hup := up.rf (a := a) (sh := sh) (M := M)
  have d0 : M a 0 < 0 := by rw [hM]; decide
  have d1 : M a 1 < 0 := by rw [hM]; decide
  have d2 : M a 2 < 0 := by rw [hM]; decide
  have d3 : M a 3 < 0 := by rw [hM]; decide
  have d4 : M a 4 < 0 := by rw [hM]; decide
  have d5 : M a 5 < 0 := by rw [hM]; decide
  have d6 : M a 6 < 0 := by rw [hM]; decide
  have d7 : M a 7 < 0 := by rw [hM]; decide
  have d8 : M a 8 < 0 := by rw [hM]; decide
  have d9 : M a 9 < 0 := by rw [hM]; decide
  have d10 : M a 10 < 0 := by rw [hM]; decide
  have d11 : M a 11 < 0 := by rw [hM]; decide
  have d12 : M a 12 < 0 := by rw [hM]; decide
  have d13 : M a 13 < 0 := by rw [hM]; decide
  have d14 : M a 14 < 0 := by rw [hM]; decide
  have d15 : M a 15 = -1 := by rw [hM]; decide
  have d16 : M a 16 = 0 := by rw [hM]; decide
  refine Sp.ofGo (own := "CiteForge$Machine") (nm := "<init>") (by decide) rfl rfl (Nat.le_of_ble_eq_true rfl) (lv := [(0, vr a), (1, vr s), (2, vr c), (3, vr k), (4, vr g_), (5, vr w)]) rfl ?_
  intro g X
  refine go_aload_n X d_Machine_init_0 rfl rfl ?_
  refine go_objInit X w_oi_Machine w_oi2 w_oi3 (by omega) (Nat.le_of_ble_eq_true rfl) d_Machine_init_1 ?_
  refine go_aload_n X d_Machine_init_4 rfl rfl ?_
  refine go_aload_n X d_Machine_init_5 rfl rfl ?_
  refine go_putF (x := s) (v := vr s) X f_Machine_9 rfl hs rfl d_Machine_init_6 (s_vref rfl (by omega)) rfl rfl f_Machine_9w ?_
  generalize hM2 : m_s M a 0 s = M1
  have e3 : M1 a 1 < 0 := by rw [← hM2, m_s_n (fun q => absurd q.2 (by decide))]; exact d1
  have e4 : M1 a 2 < 0 := by rw [← hM2, m_s_n (fun q => absurd q.2 (by decide))]; exact d2
  have e5 : M1 a 3 < 0 := by rw [← hM2, m_s_n (fun q => absurd q.2 (by decide))]; exact d3
  have e6 : M1 a 4 < 0 := by rw [← hM2, m_s_n (fun q => absurd q.2 (by decide))]; exact d4
  have e7 : M1 a 5 < 0 := by rw [← hM2, m_s_n (fun q => absurd q.2 (by decide))]; exact d5
  have e8 : M1 a 6 < 0 := by rw [← hM2, m_s_n (fun q => absurd q.2 (by decide))]; exact d6
  have e9 : M1 a 7 < 0 := by rw [← hM2, m_s_n (fun q => absurd q.2 (by decide))]; exact d7
  have e10 : M1 a 8 < 0 := by rw [← hM2, m_s_n (fun q => absurd q.2 (by decide))]; exact d8
  have e11 : M1 a 9 < 0 := by rw [← hM2, m_s_n (fun q => absurd q.2 (by decide))]; exact d9
  have e12 : M1 a 10 < 0 := by rw [← hM2, m_s_n (fun q => absurd q.2 (by decide))]; exact d10
  have e13 : M1 a 11 < 0 := by rw [← hM2, m_s_n (fun q => absurd q.2 (by decide))]; exact d11
  have e14 : M1 a 12 < 0 := by rw [← hM2, m_s_n (fun q => absurd q.2 (by decide))]; exact d12
  have e15 : M1 a 13 < 0 := by rw [← hM2, m_s_n (fun q => absurd q.2 (by decide))]; exact d13
  have e16 : M1 a 14 < 0 := by rw [← hM2, m_s_n (fun q => absurd q.2 (by decide))]; exact d14
  have e17 : M1 a 15 = (-1) := by rw [← hM2]; exact (m_s_n (fun q => absurd q.2 (by decide))).trans d15
  have e18 : M1 a 16 = 0 := by rw [← hM2]; exact (m_s_n (fun q => absurd q.2 (by decide))).trans d16
  have e19 : M1 a 0 = s := by rw [← hM2, m_s_s]
  have up20 : up a sh M sh M1 := by rw [← hM2]; exact hup.set (by omega)
  clear hM2
  refine go_aload_n X d_Machine_init_9 rfl rfl ?_
  refine go_aload_n X d_Machine_init_10 rfl rfl ?_
  refine go_putF (x := c) (v := vr c) X f_Machine_15 rfl hs rfl d_Machine_init_11 (s_vref rfl (by omega)) rfl rfl f_Machine_15w ?_
  generalize hM22 : m_s M1 a 1 c = M21
  have e23 : M21 a 2 < 0 := by rw [← hM22, m_s_n (fun q => absurd q.2 (by decide))]; exact e4
  have e24 : M21 a 3 < 0 := by rw [← hM22, m_s_n (fun q => absurd q.2 (by decide))]; exact e5
  have e25 : M21 a 4 < 0 := by rw [← hM22, m_s_n (fun q => absurd q.2 (by decide))]; exact e6
  have e26 : M21 a 5 < 0 := by rw [← hM22, m_s_n (fun q => absurd q.2 (by decide))]; exact e7
  have e27 : M21 a 6 < 0 := by rw [← hM22, m_s_n (fun q => absurd q.2 (by decide))]; exact e8
  have e28 : M21 a 7 < 0 := by rw [← hM22, m_s_n (fun q => absurd q.2 (by decide))]; exact e9
  have e29 : M21 a 8 < 0 := by rw [← hM22, m_s_n (fun q => absurd q.2 (by decide))]; exact e10
  have e30 : M21 a 9 < 0 := by rw [← hM22, m_s_n (fun q => absurd q.2 (by decide))]; exact e11
  have e31 : M21 a 10 < 0 := by rw [← hM22, m_s_n (fun q => absurd q.2 (by decide))]; exact e12
  have e32 : M21 a 11 < 0 := by rw [← hM22, m_s_n (fun q => absurd q.2 (by decide))]; exact e13
  have e33 : M21 a 12 < 0 := by rw [← hM22, m_s_n (fun q => absurd q.2 (by decide))]; exact e14
  have e34 : M21 a 13 < 0 := by rw [← hM22, m_s_n (fun q => absurd q.2 (by decide))]; exact e15
  have e35 : M21 a 14 < 0 := by rw [← hM22, m_s_n (fun q => absurd q.2 (by decide))]; exact e16
  have e36 : M21 a 15 = (-1) := by rw [← hM22]; exact (m_s_n (fun q => absurd q.2 (by decide))).trans e17
  have e37 : M21 a 16 = 0 := by rw [← hM22]; exact (m_s_n (fun q => absurd q.2 (by decide))).trans e18
  have e38 : M21 a 0 = s := by rw [← hM22]; exact (m_s_n (fun q => absurd q.2 (by decide))).trans e19
  have e39 : M21 a 1 = c := by rw [← hM22, m_s_s]
  have up40 : up a sh M sh M21 := by rw [← hM22]; exact up20.set (by omega)
  clear e10 e11 e12 e13 e14 e15 e16 e17 e18 e19 e3 e4 e5 e6 e7 e8 e9 up20 hM22
  refine go_aload_n X d_Machine_init_14 rfl rfl ?_
  refine go_aload_n X d_Machine_init_15 rfl rfl ?_
  refine go_putF (x := k) (v := vr k) X f_Machine_19 rfl hs rfl d_Machine_init_16 (s_vref rfl (by omega)) rfl rfl f_Machine_19w ?_
  generalize hM42 : m_s M21 a 2 k = M41
  have e43 : M41 a 3 < 0 := by rw [← hM42, m_s_n (fun q => absurd q.2 (by decide))]; exact e24
  have e44 : M41 a 4 < 0 := by rw [← hM42, m_s_n (fun q => absurd q.2 (by decide))]; exact e25
  have e45 : M41 a 5 < 0 := by rw [← hM42, m_s_n (fun q => absurd q.2 (by decide))]; exact e26
  have e46 : M41 a 6 < 0 := by rw [← hM42, m_s_n (fun q => absurd q.2 (by decide))]; exact e27
  have e47 : M41 a 7 < 0 := by rw [← hM42, m_s_n (fun q => absurd q.2 (by decide))]; exact e28
  have e48 : M41 a 8 < 0 := by rw [← hM42, m_s_n (fun q => absurd q.2 (by decide))]; exact e29
  have e49 : M41 a 9 < 0 := by rw [← hM42, m_s_n (fun q => absurd q.2 (by decide))]; exact e30
  have e50 : M41 a 10 < 0 := by rw [← hM42, m_s_n (fun q => absurd q.2 (by decide))]; exact e31
  have e51 : M41 a 11 < 0 := by rw [← hM42, m_s_n (fun q => absurd q.2 (by decide))]; exact e32
  have e52 : M41 a 12 < 0 := by rw [← hM42, m_s_n (fun q => absurd q.2 (by decide))]; exact e33
  have e53 : M41 a 13 < 0 := by rw [← hM42, m_s_n (fun q => absurd q.2 (by decide))]; exact e34
  have e54 : M41 a 14 < 0 := by rw [← hM42, m_s_n (fun q => absurd q.2 (by decide))]; exact e35
  have e55 : M41 a 15 = (-1) := by rw [← hM42]; exact (m_s_n (fun q => absurd q.2 (by decide))).trans e36
  have e56 : M41 a 16 = 0 := by rw [← hM42]; exact (m_s_n (fun q => absurd q.2 (by decide))).trans e37
  have e57 : M41 a 0 = s := by rw [← hM42]; exact (m_s_n (fun q => absurd q.2 (by decide))).trans e38
  have e58 : M41 a 1 = c := by rw [← hM42]; exact (m_s_n (fun q => absurd q.2 (by decide))).trans e39
  have e59 : M41 a 2 = k := by rw [← hM42, m_s_s]
  have up60 : up a sh M sh M41 := by rw [← hM42]; exact up40.set (by omega)
  clear e23 e24 e25 e26 e27 e28 e29 e30 e31 e32 e33 e34 e35 e36 e37 e38 e39 up40 hM42
  refine go_aload_n X d_Machine_init_19 rfl rfl ?_
  refine go_aload X d_Machine_init_20 rfl ?_
  refine go_putF (x := g_) (v := vr g_) X f_Machine_23 rfl hs rfl d_Machine_init_22 (s_vref rfl (by omega)) rfl rfl f_Machine_23w ?_
  generalize hM62 : m_s M41 a 3 g_ = M61
  have e63 : M61 a 4 < 0 := by rw [← hM62, m_s_n (fun q => absurd q.2 (by decide))]; exact e44
  have e64 : M61 a 5 < 0 := by rw [← hM62, m_s_n (fun q => absurd q.2 (by decide))]; exact e45
  have e65 : M61 a 6 < 0 := by rw [← hM62, m_s_n (fun q => absurd q.2 (by decide))]; exact e46
  have e66 : M61 a 7 < 0 := by rw [← hM62, m_s_n (fun q => absurd q.2 (by decide))]; exact e47
  have e67 : M61 a 8 < 0 := by rw [← hM62, m_s_n (fun q => absurd q.2 (by decide))]; exact e48
  have e68 : M61 a 9 < 0 := by rw [← hM62, m_s_n (fun q => absurd q.2 (by decide))]; exact e49
  have e69 : M61 a 10 < 0 := by rw [← hM62, m_s_n (fun q => absurd q.2 (by decide))]; exact e50
  have e70 : M61 a 11 < 0 := by rw [← hM62, m_s_n (fun q => absurd q.2 (by decide))]; exact e51
  have e71 : M61 a 12 < 0 := by rw [← hM62, m_s_n (fun q => absurd q.2 (by decide))]; exact e52
  have e72 : M61 a 13 < 0 := by rw [← hM62, m_s_n (fun q => absurd q.2 (by decide))]; exact e53
  have e73 : M61 a 14 < 0 := by rw [← hM62, m_s_n (fun q => absurd q.2 (by decide))]; exact e54
  have e74 : M61 a 15 = (-1) := by rw [← hM62]; exact (m_s_n (fun q => absurd q.2 (by decide))).trans e55
  have e75 : M61 a 16 = 0 := by rw [← hM62]; exact (m_s_n (fun q => absurd q.2 (by decide))).trans e56
  have e76 : M61 a 0 = s := by rw [← hM62]; exact (m_s_n (fun q => absurd q.2 (by decide))).trans e57
  have e77 : M61 a 1 = c := by rw [← hM62]; exact (m_s_n (fun q => absurd q.2 (by decide))).trans e58
  have e78 : M61 a 2 = k := by rw [← hM62]; exact (m_s_n (fun q => absurd q.2 (by decide))).trans e59
  have e79 : M61 a 3 = g_ := by rw [← hM62, m_s_s]
  have up80 : up a sh M sh M61 := by rw [← hM62]; exact up60.set (by omega)
  clear e43 e44 e45 e46 e47 e48 e49 e50 e51 e52 e53 e54 e55 e56 e57 e58 e59 up60 hM62
  refine go_aload_n X d_Machine_init_25 rfl rfl ?_
  refine go_aload X d_Machine_init_26 rfl ?_
  refine go_putF (x := w) (v := vr w) X f_Machine_27 rfl hs rfl d_Machine_init_28 (s_varr rfl (by omega)) rfl rfl f_Machine_27w ?_
  generalize hM82 : m_s M61 a 4 w = M81
  have e83 : M81 a 5 < 0 := by rw [← hM82, m_s_n (fun q => absurd q.2 (by decide))]; exact e64
  have e84 : M81 a 6 < 0 := by rw [← hM82, m_s_n (fun q => absurd q.2 (by decide))]; exact e65
  have e85 : M81 a 7 < 0 := by rw [← hM82, m_s_n (fun q => absurd q.2 (by decide))]; exact e66
  have e86 : M81 a 8 < 0 := by rw [← hM82, m_s_n (fun q => absurd q.2 (by decide))]; exact e67
  have e87 : M81 a 9 < 0 := by rw [← hM82, m_s_n (fun q => absurd q.2 (by decide))]; exact e68
  have e88 : M81 a 10 < 0 := by rw [← hM82, m_s_n (fun q => absurd q.2 (by decide))]; exact e69
  have e89 : M81 a 11 < 0 := by rw [← hM82, m_s_n (fun q => absurd q.2 (by decide))]; exact e70
  have e90 : M81 a 12 < 0 := by rw [← hM82, m_s_n (fun q => absurd q.2 (by decide))]; exact e71
  have e91 : M81 a 13 < 0 := by rw [← hM82, m_s_n (fun q => absurd q.2 (by decide))]; exact e72
  have e92 : M81 a 14 < 0 := by rw [← hM82, m_s_n (fun q => absurd q.2 (by decide))]; exact e73
  have e93 : M81 a 15 = (-1) := by rw [← hM82]; exact (m_s_n (fun q => absurd q.2 (by decide))).trans e74
  have e94 : M81 a 16 = 0 := by rw [← hM82]; exact (m_s_n (fun q => absurd q.2 (by decide))).trans e75
  have e95 : M81 a 0 = s := by rw [← hM82]; exact (m_s_n (fun q => absurd q.2 (by decide))).trans e76
  have e96 : M81 a 1 = c := by rw [← hM82]; exact (m_s_n (fun q => absurd q.2 (by decide))).trans e77
  have e97 : M81 a 2 = k := by rw [← hM82]; exact (m_s_n (fun q => absurd q.2 (by decide))).trans e78
  have e98 : M81 a 3 = g_ := by rw [← hM82]; exact (m_s_n (fun q => absurd q.2 (by decide))).trans e79
  have e99 : M81 a 4 = w := by rw [← hM82, m_s_s]
  have up100 : up a sh M sh M81 := by rw [← hM82]; exact up80.set (by omega)
  clear e63 e64 e65 e66 e67 e68 e69 e70 e71 e72 e73 e74 e75 e76 e77 e78 e79 up80 hM82
  refine go_aload_n X d_Machine_init_31 rfl rfl ?_
  refine go_new (ts := ts_People) (f := (fun j => if j = 2 ∨ j = 3 ∨ j = 4 ∨ j = 6 then -1 else 0)) X cls7_ok w_cl_Machine_31 w_in_7 w_ini_7 (by decide) (by decide) (by omega) (by omega) d_Machine_init_32 ?_
  generalize hs102 : s_up sh (a + 1) (.inl (7, ts_People)) = sh101
  generalize hM104 : m_new M81 (a + 1) (fun j => if j = 2 ∨ j = 3 ∨ j = 4 ∨ j = 6 then -1 else 0) = M103
  have hu105 : up (a + 1) sh M81 sh101 M103 := by rw [← hs102, ← hM104]; exact up.new
  have e106 : sh101 a = some (.inl (9, ts_Machine)) := hu105.s (by omega) hs
  have e107 : M103 a 5 < 0 := hu105.n (by omega) e83
  have e108 : M103 a 6 < 0 := hu105.n (by omega) e84
  have e109 : M103 a 7 < 0 := hu105.n (by omega) e85
  have e110 : M103 a 8 < 0 := hu105.n (by omega) e86
  have e111 : M103 a 9 < 0 := hu105.n (by omega) e87
  have e112 : M103 a 10 < 0 := hu105.n (by omega) e88
  have e113 : M103 a 11 < 0 := hu105.n (by omega) e89
  have e114 : M103 a 12 < 0 := hu105.n (by omega) e90
  have e115 : M103 a 13 < 0 := hu105.n (by omega) e91
  have e116 : M103 a 14 < 0 := hu105.n (by omega) e92
  have e117 : M103 a 15 = (-1) := hu105.m (by omega) e93
  have e118 : M103 a 16 = 0 := hu105.m (by omega) e94
  have e119 : M103 a 0 = s := hu105.m (by omega) e95
  have e120 : M103 a 1 = c := hu105.m (by omega) e96
  have e121 : M103 a 2 = k := hu105.m (by omega) e97
  have e122 : M103 a 3 = g_ := hu105.m (by omega) e98
  have e123 : M103 a 4 = w := hu105.m (by omega) e99
  have up124 : up a sh M sh101 M103 := up100.tr hu105 (by omega)
  clear e83 e84 e85 e86 e87 e88 e89 e90 e91 e92 e93 e94 e95 e96 e97 e98 e99
  have e125 : sh101 (a + 1) = some (.inl (7, ts_People)) := by rw [← hs102, s_up_s]
  have rw126 : M103 (a + 1) = (fun j => if j = 2 ∨ j = 3 ∨ j = 4 ∨ j = 6 then -1 else 0) := by rw [← hM104, m_new_s]
  clear hs102 hM104 hu105
  refine go_kn (k' := 1) (n' := 16) (sz' := a + 2) (by omega) (by omega) (by omega) ?_
  refine go_dup X d_Machine_init_35 rfl ?_
  refine go_cI (st2 := []) (r := [vr (a + 1), vr a]) X k_Machine_33 (c_People_initZ l D e125 rw126 (by omega) (by omega)) rfl rfl (by omega) (Nat.le_of_ble_eq_true rfl) d_Machine_init_36 (by omega) (by omega) (fun v sh127 M128 sz' hp => ?_)
  obtain ⟨e129, e130, hu131, pd132⟩ := hp
  subst e129
  refine go_kn (k' := 5) (n' := 199) (sz' := a + 6) (by omega) (by omega) (by omega) ?_
  show Go g (5) (199) sh127 M128 (a + 6) 39 [(0, vr a), (1, vr s), (2, vr c), (3, vr k), (4, vr g_), (5, vr w)] [vr (a + 1), vr a]
  have e133 : sh127 a = some (.inl (9, ts_Machine)) := hu131.s (by omega) e106
  have e134 : M128 a 5 < 0 := hu131.n (by omega) e107
  have e135 : M128 a 6 < 0 := hu131.n (by omega) e108
  have e136 : M128 a 7 < 0 := hu131.n (by omega) e109
  have e137 : M128 a 8 < 0 := hu131.n (by omega) e110
  have e138 : M128 a 9 < 0 := hu131.n (by omega) e111
  have e139 : M128 a 10 < 0 := hu131.n (by omega) e112
  have e140 : M128 a 11 < 0 := hu131.n (by omega) e113
  have e141 : M128 a 12 < 0 := hu131.n (by omega) e114
  have e142 : M128 a 13 < 0 := hu131.n (by omega) e115
  have e143 : M128 a 14 < 0 := hu131.n (by omega) e116
  have e144 : M128 a 15 = (-1) := hu131.m (by omega) e117
  have e145 : M128 a 16 = 0 := hu131.m (by omega) e118
  have e146 : M128 a 0 = s := hu131.m (by omega) e119
  have e147 : M128 a 1 = c := hu131.m (by omega) e120
  have e148 : M128 a 2 = k := hu131.m (by omega) e121
  have e149 : M128 a 3 = g_ := hu131.m (by omega) e122
  have e150 : M128 a 4 = w := hu131.m (by omega) e123
  have up151 : up a sh M sh127 M128 := up124.tr hu131 (by omega)
  clear e106 e107 e108 e109 e110 e111 e112 e113 e114 e115 e116 e117 e118 e119 e120 e121 e122 e123 e125 rw126
  clear hu131 e130
  refine go_putF (x := (a + 1)) (v := vr (a + 1)) X f_Machine_34 rfl e133 rfl d_Machine_init_39 (s_vref rfl (by omega)) rfl rfl f_Machine_34w ?_
  generalize hM153 : m_s M128 a 5 (a + 1) = M152
  have e154 : M152 a 6 < 0 := by rw [← hM153, m_s_n (fun q => absurd q.2 (by decide))]; exact e135
  have e155 : M152 a 7 < 0 := by rw [← hM153, m_s_n (fun q => absurd q.2 (by decide))]; exact e136
  have e156 : M152 a 8 < 0 := by rw [← hM153, m_s_n (fun q => absurd q.2 (by decide))]; exact e137
  have e157 : M152 a 9 < 0 := by rw [← hM153, m_s_n (fun q => absurd q.2 (by decide))]; exact e138
  have e158 : M152 a 10 < 0 := by rw [← hM153, m_s_n (fun q => absurd q.2 (by decide))]; exact e139
  have e159 : M152 a 11 < 0 := by rw [← hM153, m_s_n (fun q => absurd q.2 (by decide))]; exact e140
  have e160 : M152 a 12 < 0 := by rw [← hM153, m_s_n (fun q => absurd q.2 (by decide))]; exact e141
  have e161 : M152 a 13 < 0 := by rw [← hM153, m_s_n (fun q => absurd q.2 (by decide))]; exact e142
  have e162 : M152 a 14 < 0 := by rw [← hM153, m_s_n (fun q => absurd q.2 (by decide))]; exact e143
  have e163 : M152 a 15 = (-1) := by rw [← hM153]; exact (m_s_n (fun q => absurd q.2 (by decide))).trans e144
  have e164 : M152 a 16 = 0 := by rw [← hM153]; exact (m_s_n (fun q => absurd q.2 (by decide))).trans e145
  have e165 : M152 a 0 = s := by rw [← hM153]; exact (m_s_n (fun q => absurd q.2 (by decide))).trans e146
  have e166 : M152 a 1 = c := by rw [← hM153]; exact (m_s_n (fun q => absurd q.2 (by decide))).trans e147
  have e167 : M152 a 2 = k := by rw [← hM153]; exact (m_s_n (fun q => absurd q.2 (by decide))).trans e148
  have e168 : M152 a 3 = g_ := by rw [← hM153]; exact (m_s_n (fun q => absurd q.2 (by decide))).trans e149
  have e169 : M152 a 4 = w := by rw [← hM153]; exact (m_s_n (fun q => absurd q.2 (by decide))).trans e150
  have pd170 : pez sh127 M152 (a + 1) := by rw [← hM153]; exact pd132.mv (as_set (by omega))
  have e171 : M152 a 5 = a + 1 := by rw [← hM153, m_s_s]
  have up172 : up a sh M sh127 M152 := by rw [← hM153]; exact up151.set (by omega)
  clear e134 e135 e136 e137 e138 e139 e140 e141 e142 e143 e144 e145 e146 e147 e148 e149 e150 pd132 up151 hM153
  refine go_aload_n X d_Machine_init_42 rfl rfl ?_
  refine go_sipush (v := 144) X d_Machine_init_43 (by decide) ?_
  refine go_newa (N := 144) (ty := .int) X w_ac_int rfl (by simp) (by omega) (by omega) (by omega) d_Machine_init_46 ?_
  generalize hs174 : s_up sh127 (a + 6) (.inr (.int, 144)) = sh173
  generalize hM176 : m_new M152 (a + 6) (fun _ => 0) = M175
  have hu177 : up (a + 6) sh127 M152 sh173 M175 := by rw [← hs174, ← hM176]; exact up.new
  have e178 : sh173 a = some (.inl (9, ts_Machine)) := hu177.s (by omega) e133
  have e179 : M175 a 6 < 0 := hu177.n (by omega) e154
  have e180 : M175 a 7 < 0 := hu177.n (by omega) e155
  have e181 : M175 a 8 < 0 := hu177.n (by omega) e156
  have e182 : M175 a 9 < 0 := hu177.n (by omega) e157
  have e183 : M175 a 10 < 0 := hu177.n (by omega) e158
  have e184 : M175 a 11 < 0 := hu177.n (by omega) e159
  have e185 : M175 a 12 < 0 := hu177.n (by omega) e160
  have e186 : M175 a 13 < 0 := hu177.n (by omega) e161
  have e187 : M175 a 14 < 0 := hu177.n (by omega) e162
  have e188 : M175 a 15 = (-1) := hu177.m (by omega) e163
  have e189 : M175 a 16 = 0 := hu177.m (by omega) e164
  have e190 : M175 a 0 = s := hu177.m (by omega) e165
  have e191 : M175 a 1 = c := hu177.m (by omega) e166
  have e192 : M175 a 2 = k := hu177.m (by omega) e167
  have e193 : M175 a 3 = g_ := hu177.m (by omega) e168
  have e194 : M175 a 4 = w := hu177.m (by omega) e169
  have e195 : M175 a 5 = a + 1 := hu177.m (by omega) e171
  have pd196 : pez sh173 M175 (a + 1) := pd170.mv (hu177.as (by omega))
  have up197 : up a sh M sh173 M175 := up172.tr hu177 (by omega)
  clear e133 e154 e155 e156 e157 e158 e159 e160 e161 e162 e163 e164 e165 e166 e167 e168 e169 e171 pd170
  have e198 : sh173 (a + 6) = some (.inr (.int, 144)) := by rw [← hs174, s_up_s]
  have rw199 : M175 (a + 6) = (fun _ => 0) := by rw [← hM176, m_new_s]
  clear hs174 hM176 hu177
  refine go_kn (k' := 6) (n' := 343) (sz' := a + 7) (by omega) (by omega) (by omega) ?_
  refine go_putF (x := (a + 6)) (v := vr (a + 6)) X f_Machine_38 rfl e178 rfl d_Machine_init_48 (s_varr rfl (by omega)) rfl rfl f_Machine_38w ?_
  generalize hM201 : m_s M175 a 6 (a + 6) = M200
  have e202 : M200 a 7 < 0 := by rw [← hM201, m_s_n (fun q => absurd q.2 (by decide))]; exact e180
  have e203 : M200 a 8 < 0 := by rw [← hM201, m_s_n (fun q => absurd q.2 (by decide))]; exact e181
  have e204 : M200 a 9 < 0 := by rw [← hM201, m_s_n (fun q => absurd q.2 (by decide))]; exact e182
  have e205 : M200 a 10 < 0 := by rw [← hM201, m_s_n (fun q => absurd q.2 (by decide))]; exact e183
  have e206 : M200 a 11 < 0 := by rw [← hM201, m_s_n (fun q => absurd q.2 (by decide))]; exact e184
  have e207 : M200 a 12 < 0 := by rw [← hM201, m_s_n (fun q => absurd q.2 (by decide))]; exact e185
  have e208 : M200 a 13 < 0 := by rw [← hM201, m_s_n (fun q => absurd q.2 (by decide))]; exact e186
  have e209 : M200 a 14 < 0 := by rw [← hM201, m_s_n (fun q => absurd q.2 (by decide))]; exact e187
  have e210 : M200 a 15 = (-1) := by rw [← hM201]; exact (m_s_n (fun q => absurd q.2 (by decide))).trans e188
  have e211 : M200 a 16 = 0 := by rw [← hM201]; exact (m_s_n (fun q => absurd q.2 (by decide))).trans e189
  have e212 : M200 a 0 = s := by rw [← hM201]; exact (m_s_n (fun q => absurd q.2 (by decide))).trans e190
  have e213 : M200 a 1 = c := by rw [← hM201]; exact (m_s_n (fun q => absurd q.2 (by decide))).trans e191
  have e214 : M200 a 2 = k := by rw [← hM201]; exact (m_s_n (fun q => absurd q.2 (by decide))).trans e192
  have e215 : M200 a 3 = g_ := by rw [← hM201]; exact (m_s_n (fun q => absurd q.2 (by decide))).trans e193
  have e216 : M200 a 4 = w := by rw [← hM201]; exact (m_s_n (fun q => absurd q.2 (by decide))).trans e194
  have e217 : M200 a 5 = a + 1 := by rw [← hM201]; exact (m_s_n (fun q => absurd q.2 (by decide))).trans e195
  have rw218 : M200 (a + 6) = (fun _ => 0) := by rw [← hM201]; exact (m_s_a (of_ne0 (by decide))).trans rw199
  have pd219 : pez sh173 M200 (a + 1) := by rw [← hM201]; exact pd196.mv (as_set (by omega))
  have e220 : M200 a 6 = a + 6 := by rw [← hM201, m_s_s]
  have up221 : up a sh M sh173 M200 := by rw [← hM201]; exact up197.set (by omega)
  clear e179 e180 e181 e182 e183 e184 e185 e186 e187 e188 e189 e190 e191 e192 e193 e194 e195 pd196 rw199 up197 hM201
  refine go_aload_n X d_Machine_init_51 rfl rfl ?_
  refine go_sipush (v := 144) X d_Machine_init_52 (by decide) ?_
  refine go_newa (N := 144) (ty := .long) X w_ac_long rfl (by simp) (by omega) (by omega) (by omega) d_Machine_init_55 ?_
  generalize hs223 : s_up sh173 (a + 7) (.inr (.long, 144)) = sh222
  generalize hM225 : m_new M200 (a + 7) (fun _ => 0) = M224
  have hu226 : up (a + 7) sh173 M200 sh222 M224 := by rw [← hs223, ← hM225]; exact up.new
  have e227 : sh222 a = some (.inl (9, ts_Machine)) := hu226.s (by omega) e178
  have e228 : sh222 (a + 6) = some (.inr (.int, 144)) := hu226.s (by omega) e198
  have e229 : M224 a 7 < 0 := hu226.n (by omega) e202
  have e230 : M224 a 8 < 0 := hu226.n (by omega) e203
  have e231 : M224 a 9 < 0 := hu226.n (by omega) e204
  have e232 : M224 a 10 < 0 := hu226.n (by omega) e205
  have e233 : M224 a 11 < 0 := hu226.n (by omega) e206
  have e234 : M224 a 12 < 0 := hu226.n (by omega) e207
  have e235 : M224 a 13 < 0 := hu226.n (by omega) e208
  have e236 : M224 a 14 < 0 := hu226.n (by omega) e209
  have e237 : M224 a 15 = (-1) := hu226.m (by omega) e210
  have e238 : M224 a 16 = 0 := hu226.m (by omega) e211
  have e239 : M224 a 0 = s := hu226.m (by omega) e212
  have e240 : M224 a 1 = c := hu226.m (by omega) e213
  have e241 : M224 a 2 = k := hu226.m (by omega) e214
  have e242 : M224 a 3 = g_ := hu226.m (by omega) e215
  have e243 : M224 a 4 = w := hu226.m (by omega) e216
  have e244 : M224 a 5 = a + 1 := hu226.m (by omega) e217
  have e245 : M224 a 6 = a + 6 := hu226.m (by omega) e220
  have rw246 : M224 (a + 6) = (fun _ => 0) := hu226.r (by omega) rw218
  have pd247 : pez sh222 M224 (a + 1) := pd219.mv (hu226.as (by omega))
  have up248 : up a sh M sh222 M224 := up221.tr hu226 (by omega)
  clear e178 e198 e202 e203 e204 e205 e206 e207 e208 e209 e210 e211 e212 e213 e214 e215 e216 e217 e220 pd219 rw218
  have e249 : sh222 (a + 7) = some (.inr (.long, 144)) := by rw [← hs223, s_up_s]
  have rw250 : M224 (a + 7) = (fun _ => 0) := by rw [← hM225, m_new_s]
  clear hs223 hM225 hu226
  refine go_kn (k' := 7) (n' := 487) (sz' := a + 8) (by omega) (by omega) (by omega) ?_
  refine go_putF (x := (a + 7)) (v := vr (a + 7)) X f_Machine_41 rfl e227 rfl d_Machine_init_57 (s_varr rfl (by omega)) rfl rfl f_Machine_41w ?_
  generalize hM252 : m_s M224 a 7 (a + 7) = M251
  have e253 : M251 a 8 < 0 := by rw [← hM252, m_s_n (fun q => absurd q.2 (by decide))]; exact e230
  have e254 : M251 a 9 < 0 := by rw [← hM252, m_s_n (fun q => absurd q.2 (by decide))]; exact e231
  have e255 : M251 a 10 < 0 := by rw [← hM252, m_s_n (fun q => absurd q.2 (by decide))]; exact e232
  have e256 : M251 a 11 < 0 := by rw [← hM252, m_s_n (fun q => absurd q.2 (by decide))]; exact e233
  have e257 : M251 a 12 < 0 := by rw [← hM252, m_s_n (fun q => absurd q.2 (by decide))]; exact e234
  have e258 : M251 a 13 < 0 := by rw [← hM252, m_s_n (fun q => absurd q.2 (by decide))]; exact e235
  have e259 : M251 a 14 < 0 := by rw [← hM252, m_s_n (fun q => absurd q.2 (by decide))]; exact e236
  have e260 : M251 a 15 = (-1) := by rw [← hM252]; exact (m_s_n (fun q => absurd q.2 (by decide))).trans e237
  have e261 : M251 a 16 = 0 := by rw [← hM252]; exact (m_s_n (fun q => absurd q.2 (by decide))).trans e238
  have e262 : M251 a 0 = s := by rw [← hM252]; exact (m_s_n (fun q => absurd q.2 (by decide))).trans e239
  have e263 : M251 a 1 = c := by rw [← hM252]; exact (m_s_n (fun q => absurd q.2 (by decide))).trans e240
  have e264 : M251 a 2 = k := by rw [← hM252]; exact (m_s_n (fun q => absurd q.2 (by decide))).trans e241
  have e265 : M251 a 3 = g_ := by rw [← hM252]; exact (m_s_n (fun q => absurd q.2 (by decide))).trans e242
  have e266 : M251 a 4 = w := by rw [← hM252]; exact (m_s_n (fun q => absurd q.2 (by decide))).trans e243
  have e267 : M251 a 5 = a + 1 := by rw [← hM252]; exact (m_s_n (fun q => absurd q.2 (by decide))).trans e244
  have e268 : M251 a 6 = a + 6 := by rw [← hM252]; exact (m_s_n (fun q => absurd q.2 (by decide))).trans e245
  have rw269 : M251 (a + 6) = (fun _ => 0) := by rw [← hM252]; exact (m_s_a (of_ne0 (by decide))).trans rw246
  have rw270 : M251 (a + 7) = (fun _ => 0) := by rw [← hM252]; exact (m_s_a (of_ne0 (by decide))).trans rw250
  have pd271 : pez sh222 M251 (a + 1) := by rw [← hM252]; exact pd247.mv (as_set (by omega))
  have e272 : M251 a 7 = a + 7 := by rw [← hM252, m_s_s]
  have up273 : up a sh M sh222 M251 := by rw [← hM252]; exact up248.set (by omega)
  clear e229 e230 e231 e232 e233 e234 e235 e236 e237 e238 e239 e240 e241 e242 e243 e244 e245 pd247 rw246 rw250 up248 hM252
  refine go_aload_n X d_Machine_init_60 rfl rfl ?_
  refine go_bipush (v := 6) X d_Machine_init_61 (by decide) ?_
  refine go_newa (N := 6) (ty := .int) X w_ac_int rfl (by simp) (by omega) (by omega) (by omega) d_Machine_init_63 ?_
  generalize hs275 : s_up sh222 (a + 8) (.inr (.int, 6)) = sh274
  generalize hM277 : m_new M251 (a + 8) (fun _ => 0) = M276
  have hu278 : up (a + 8) sh222 M251 sh274 M276 := by rw [← hs275, ← hM277]; exact up.new
  have e279 : sh274 a = some (.inl (9, ts_Machine)) := hu278.s (by omega) e227
  have e280 : sh274 (a + 6) = some (.inr (.int, 144)) := hu278.s (by omega) e228
  have e281 : sh274 (a + 7) = some (.inr (.long, 144)) := hu278.s (by omega) e249
  have e282 : M276 a 8 < 0 := hu278.n (by omega) e253
  have e283 : M276 a 9 < 0 := hu278.n (by omega) e254
  have e284 : M276 a 10 < 0 := hu278.n (by omega) e255
  have e285 : M276 a 11 < 0 := hu278.n (by omega) e256
  have e286 : M276 a 12 < 0 := hu278.n (by omega) e257
  have e287 : M276 a 13 < 0 := hu278.n (by omega) e258
  have e288 : M276 a 14 < 0 := hu278.n (by omega) e259
  have e289 : M276 a 15 = (-1) := hu278.m (by omega) e260
  have e290 : M276 a 16 = 0 := hu278.m (by omega) e261
  have e291 : M276 a 0 = s := hu278.m (by omega) e262
  have e292 : M276 a 1 = c := hu278.m (by omega) e263
  have e293 : M276 a 2 = k := hu278.m (by omega) e264
  have e294 : M276 a 3 = g_ := hu278.m (by omega) e265
  have e295 : M276 a 4 = w := hu278.m (by omega) e266
  have e296 : M276 a 5 = a + 1 := hu278.m (by omega) e267
  have e297 : M276 a 6 = a + 6 := hu278.m (by omega) e268
  have e298 : M276 a 7 = a + 7 := hu278.m (by omega) e272
  have rw299 : M276 (a + 6) = (fun _ => 0) := hu278.r (by omega) rw269
  have rw300 : M276 (a + 7) = (fun _ => 0) := hu278.r (by omega) rw270
  have pd301 : pez sh274 M276 (a + 1) := pd271.mv (hu278.as (by omega))
  have up302 : up a sh M sh274 M276 := up273.tr hu278 (by omega)
  clear e227 e228 e249 e253 e254 e255 e256 e257 e258 e259 e260 e261 e262 e263 e264 e265 e266 e267 e268 e272 pd271 rw269 rw270
  have e303 : sh274 (a + 8) = some (.inr (.int, 6)) := by rw [← hs275, s_up_s]
  have rw304 : M276 (a + 8) = (fun _ => 0) := by rw [← hM277, m_new_s]
  clear hs275 hM277 hu278
  refine go_kn (k' := 8) (n' := 493) (sz' := a + 9) (by omega) (by omega) (by omega) ?_
  refine go_putF (x := (a + 8)) (v := vr (a + 8)) X f_Machine_45 rfl e279 rfl d_Machine_init_65 (s_varr rfl (by omega)) rfl rfl f_Machine_45w ?_
  generalize hM306 : m_s M276 a 8 (a + 8) = M305
  have e307 : M305 a 9 < 0 := by rw [← hM306, m_s_n (fun q => absurd q.2 (by decide))]; exact e283
  have e308 : M305 a 10 < 0 := by rw [← hM306, m_s_n (fun q => absurd q.2 (by decide))]; exact e284
  have e309 : M305 a 11 < 0 := by rw [← hM306, m_s_n (fun q => absurd q.2 (by decide))]; exact e285
  have e310 : M305 a 12 < 0 := by rw [← hM306, m_s_n (fun q => absurd q.2 (by decide))]; exact e286
  have e311 : M305 a 13 < 0 := by rw [← hM306, m_s_n (fun q => absurd q.2 (by decide))]; exact e287
  have e312 : M305 a 14 < 0 := by rw [← hM306, m_s_n (fun q => absurd q.2 (by decide))]; exact e288
  have e313 : M305 a 15 = (-1) := by rw [← hM306]; exact (m_s_n (fun q => absurd q.2 (by decide))).trans e289
  have e314 : M305 a 16 = 0 := by rw [← hM306]; exact (m_s_n (fun q => absurd q.2 (by decide))).trans e290
  have e315 : M305 a 0 = s := by rw [← hM306]; exact (m_s_n (fun q => absurd q.2 (by decide))).trans e291
  have e316 : M305 a 1 = c := by rw [← hM306]; exact (m_s_n (fun q => absurd q.2 (by decide))).trans e292
  have e317 : M305 a 2 = k := by rw [← hM306]; exact (m_s_n (fun q => absurd q.2 (by decide))).trans e293
  have e318 : M305 a 3 = g_ := by rw [← hM306]; exact (m_s_n (fun q => absurd q.2 (by decide))).trans e294
  have e319 : M305 a 4 = w := by rw [← hM306]; exact (m_s_n (fun q => absurd q.2 (by decide))).trans e295
  have e320 : M305 a 5 = a + 1 := by rw [← hM306]; exact (m_s_n (fun q => absurd q.2 (by decide))).trans e296
  have e321 : M305 a 6 = a + 6 := by rw [← hM306]; exact (m_s_n (fun q => absurd q.2 (by decide))).trans e297
  have e322 : M305 a 7 = a + 7 := by rw [← hM306]; exact (m_s_n (fun q => absurd q.2 (by decide))).trans e298
  have rw323 : M305 (a + 6) = (fun _ => 0) := by rw [← hM306]; exact (m_s_a (of_ne0 (by decide))).trans rw299
  have rw324 : M305 (a + 7) = (fun _ => 0) := by rw [← hM306]; exact (m_s_a (of_ne0 (by decide))).trans rw300
  have rw325 : M305 (a + 8) = (fun _ => 0) := by rw [← hM306]; exact (m_s_a (of_ne0 (by decide))).trans rw304
  have pd326 : pez sh274 M305 (a + 1) := by rw [← hM306]; exact pd301.mv (as_set (by omega))
  have e327 : M305 a 8 = a + 8 := by rw [← hM306, m_s_s]
  have up328 : up a sh M sh274 M305 := by rw [← hM306]; exact up302.set (by omega)
  clear e282 e283 e284 e285 e286 e287 e288 e289 e290 e291 e292 e293 e294 e295 e296 e297 e298 pd301 rw299 rw300 rw304 up302 hM306
  refine go_aload_n X d_Machine_init_68 rfl rfl ?_
  refine go_iconst (v := 4) X d_Machine_init_69 ?_
  refine go_newa (N := 4) (ty := .int) X w_ac_int rfl (by simp) (by omega) (by omega) (by omega) d_Machine_init_70 ?_
  generalize hs330 : s_up sh274 (a + 9) (.inr (.int, 4)) = sh329
  generalize hM332 : m_new M305 (a + 9) (fun _ => 0) = M331
  have hu333 : up (a + 9) sh274 M305 sh329 M331 := by rw [← hs330, ← hM332]; exact up.new
  have e334 : sh329 a = some (.inl (9, ts_Machine)) := hu333.s (by omega) e279
  have e335 : sh329 (a + 6) = some (.inr (.int, 144)) := hu333.s (by omega) e280
  have e336 : sh329 (a + 7) = some (.inr (.long, 144)) := hu333.s (by omega) e281
  have e337 : sh329 (a + 8) = some (.inr (.int, 6)) := hu333.s (by omega) e303
  have e338 : M331 a 9 < 0 := hu333.n (by omega) e307
  have e339 : M331 a 10 < 0 := hu333.n (by omega) e308
  have e340 : M331 a 11 < 0 := hu333.n (by omega) e309
  have e341 : M331 a 12 < 0 := hu333.n (by omega) e310
  have e342 : M331 a 13 < 0 := hu333.n (by omega) e311
  have e343 : M331 a 14 < 0 := hu333.n (by omega) e312
  have e344 : M331 a 15 = (-1) := hu333.m (by omega) e313
  have e345 : M331 a 16 = 0 := hu333.m (by omega) e314
  have e346 : M331 a 0 = s := hu333.m (by omega) e315
  have e347 : M331 a 1 = c := hu333.m (by omega) e316
  have e348 : M331 a 2 = k := hu333.m (by omega) e317
  have e349 : M331 a 3 = g_ := hu333.m (by omega) e318
  have e350 : M331 a 4 = w := hu333.m (by omega) e319
  have e351 : M331 a 5 = a + 1 := hu333.m (by omega) e320
  have e352 : M331 a 6 = a + 6 := hu333.m (by omega) e321
  have e353 : M331 a 7 = a + 7 := hu333.m (by omega) e322
  have e354 : M331 a 8 = a + 8 := hu333.m (by omega) e327
  have rw355 : M331 (a + 6) = (fun _ => 0) := hu333.r (by omega) rw323
  have rw356 : M331 (a + 7) = (fun _ => 0) := hu333.r (by omega) rw324
  have rw357 : M331 (a + 8) = (fun _ => 0) := hu333.r (by omega) rw325
  have pd358 : pez sh329 M331 (a + 1) := pd326.mv (hu333.as (by omega))
  have up359 : up a sh M sh329 M331 := up328.tr hu333 (by omega)
  clear e279 e280 e281 e303 e307 e308 e309 e310 e311 e312 e313 e314 e315 e316 e317 e318 e319 e320 e321 e322 e327 pd326 rw323 rw324 rw325
  have e360 : sh329 (a + 9) = some (.inr (.int, 4)) := by rw [← hs330, s_up_s]
  have rw361 : M331 (a + 9) = (fun _ => 0) := by rw [← hM332, m_new_s]
  clear hs330 hM332 hu333
  refine go_kn (k' := 9) (n' := 497) (sz' := a + 10) (by omega) (by omega) (by omega) ?_
  refine go_putF (x := (a + 9)) (v := vr (a + 9)) X f_Machine_48 rfl e334 rfl d_Machine_init_72 (s_varr rfl (by omega)) rfl rfl f_Machine_48w ?_
  generalize hM363 : m_s M331 a 9 (a + 9) = M362
  have e364 : M362 a 10 < 0 := by rw [← hM363, m_s_n (fun q => absurd q.2 (by decide))]; exact e339
  have e365 : M362 a 11 < 0 := by rw [← hM363, m_s_n (fun q => absurd q.2 (by decide))]; exact e340
  have e366 : M362 a 12 < 0 := by rw [← hM363, m_s_n (fun q => absurd q.2 (by decide))]; exact e341
  have e367 : M362 a 13 < 0 := by rw [← hM363, m_s_n (fun q => absurd q.2 (by decide))]; exact e342
  have e368 : M362 a 14 < 0 := by rw [← hM363, m_s_n (fun q => absurd q.2 (by decide))]; exact e343
  have e369 : M362 a 15 = (-1) := by rw [← hM363]; exact (m_s_n (fun q => absurd q.2 (by decide))).trans e344
  have e370 : M362 a 16 = 0 := by rw [← hM363]; exact (m_s_n (fun q => absurd q.2 (by decide))).trans e345
  have e371 : M362 a 0 = s := by rw [← hM363]; exact (m_s_n (fun q => absurd q.2 (by decide))).trans e346
  have e372 : M362 a 1 = c := by rw [← hM363]; exact (m_s_n (fun q => absurd q.2 (by decide))).trans e347
  have e373 : M362 a 2 = k := by rw [← hM363]; exact (m_s_n (fun q => absurd q.2 (by decide))).trans e348
  have e374 : M362 a 3 = g_ := by rw [← hM363]; exact (m_s_n (fun q => absurd q.2 (by decide))).trans e349
  have e375 : M362 a 4 = w := by rw [← hM363]; exact (m_s_n (fun q => absurd q.2 (by decide))).trans e350
  have e376 : M362 a 5 = a + 1 := by rw [← hM363]; exact (m_s_n (fun q => absurd q.2 (by decide))).trans e351
  have e377 : M362 a 6 = a + 6 := by rw [← hM363]; exact (m_s_n (fun q => absurd q.2 (by decide))).trans e352
  have e378 : M362 a 7 = a + 7 := by rw [← hM363]; exact (m_s_n (fun q => absurd q.2 (by decide))).trans e353
  have e379 : M362 a 8 = a + 8 := by rw [← hM363]; exact (m_s_n (fun q => absurd q.2 (by decide))).trans e354
  have rw380 : M362 (a + 6) = (fun _ => 0) := by rw [← hM363]; exact (m_s_a (of_ne0 (by decide))).trans rw355
  have rw381 : M362 (a + 7) = (fun _ => 0) := by rw [← hM363]; exact (m_s_a (of_ne0 (by decide))).trans rw356
  have rw382 : M362 (a + 8) = (fun _ => 0) := by rw [← hM363]; exact (m_s_a (of_ne0 (by decide))).trans rw357
  have rw383 : M362 (a + 9) = (fun _ => 0) := by rw [← hM363]; exact (m_s_a (of_ne0 (by decide))).trans rw361
  have pd384 : pez sh329 M362 (a + 1) := by rw [← hM363]; exact pd358.mv (as_set (by omega))
  have e385 : M362 a 9 = a + 9 := by rw [← hM363, m_s_s]
  have up386 : up a sh M sh329 M362 := by rw [← hM363]; exact up359.set (by omega)
  clear e338 e339 e340 e341 e342 e343 e344 e345 e346 e347 e348 e349 e350 e351 e352 e353 e354 pd358 rw355 rw356 rw357 rw361 up359 hM363
  refine go_aload_n X d_Machine_init_75 rfl rfl ?_
  refine go_new (ts := ts_Text) (f := (fun j => if j = 0 then -1 else 0)) X cls0_ok w_cl_Machine_51 w_in_0 w_ini_0 (by decide) (by decide) (by omega) (by omega) d_Machine_init_76 ?_
  generalize hs388 : s_up sh329 (a + 10) (.inl (0, ts_Text)) = sh387
  generalize hM390 : m_new M362 (a + 10) (fun j => if j = 0 then -1 else 0) = M389
  have hu391 : up (a + 10) sh329 M362 sh387 M389 := by rw [← hs388, ← hM390]; exact up.new
  have e392 : sh387 a = some (.inl (9, ts_Machine)) := hu391.s (by omega) e334
  have e393 : sh387 (a + 6) = some (.inr (.int, 144)) := hu391.s (by omega) e335
  have e394 : sh387 (a + 7) = some (.inr (.long, 144)) := hu391.s (by omega) e336
  have e395 : sh387 (a + 8) = some (.inr (.int, 6)) := hu391.s (by omega) e337
  have e396 : sh387 (a + 9) = some (.inr (.int, 4)) := hu391.s (by omega) e360
  have e397 : M389 a 10 < 0 := hu391.n (by omega) e364
  have e398 : M389 a 11 < 0 := hu391.n (by omega) e365
  have e399 : M389 a 12 < 0 := hu391.n (by omega) e366
  have e400 : M389 a 13 < 0 := hu391.n (by omega) e367
  have e401 : M389 a 14 < 0 := hu391.n (by omega) e368
  have e402 : M389 a 15 = (-1) := hu391.m (by omega) e369
  have e403 : M389 a 16 = 0 := hu391.m (by omega) e370
  have e404 : M389 a 0 = s := hu391.m (by omega) e371
  have e405 : M389 a 1 = c := hu391.m (by omega) e372
  have e406 : M389 a 2 = k := hu391.m (by omega) e373
  have e407 : M389 a 3 = g_ := hu391.m (by omega) e374
  have e408 : M389 a 4 = w := hu391.m (by omega) e375
  have e409 : M389 a 5 = a + 1 := hu391.m (by omega) e376
  have e410 : M389 a 6 = a + 6 := hu391.m (by omega) e377
  have e411 : M389 a 7 = a + 7 := hu391.m (by omega) e378
  have e412 : M389 a 8 = a + 8 := hu391.m (by omega) e379
  have e413 : M389 a 9 = a + 9 := hu391.m (by omega) e385
  have rw414 : M389 (a + 6) = (fun _ => 0) := hu391.r (by omega) rw380
  have rw415 : M389 (a + 7) = (fun _ => 0) := hu391.r (by omega) rw381
  have rw416 : M389 (a + 8) = (fun _ => 0) := hu391.r (by omega) rw382
  have rw417 : M389 (a + 9) = (fun _ => 0) := hu391.r (by omega) rw383
  have pd418 : pez sh387 M389 (a + 1) := pd384.mv (hu391.as (by omega))
  have up419 : up a sh M sh387 M389 := up386.tr hu391 (by omega)
  clear e334 e335 e336 e337 e360 e364 e365 e366 e367 e368 e369 e370 e371 e372 e373 e374 e375 e376 e377 e378 e379 e385 pd384 rw380 rw381 rw382 rw383
  have e420 : sh387 (a + 10) = some (.inl (0, ts_Text)) := by rw [← hs388, s_up_s]
  have rw421 : M389 (a + 10) = (fun j => if j = 0 then -1 else 0) := by rw [← hM390, m_new_s]
  clear hs388 hM390 hu391
  refine go_kn (k' := 10) (n' := 499) (sz' := a + 11) (by omega) (by omega) (by omega) ?_
  refine go_dup X d_Machine_init_79 rfl ?_
  refine go_bipush (v := 60) X d_Machine_init_80 (by decide) ?_
  refine go_cI (st2 := []) (r := [vr (a + 10), vr a]) X k_Machine_53 (c_Text_init l D e420 rw421 (by omega) (by omega) (N := 60) rfl (by decide)) rfl rfl (by omega) (Nat.le_of_ble_eq_true rfl) d_Machine_init_82 (by omega) (by omega) (fun v sh422 M423 sz' hp => ?_)
  obtain ⟨e424, e425, hu426, pd427⟩ := hp
  subst e424
  refine go_kn (k' := 11) (n' := 559) (sz' := a + 12) (by omega) (by omega) (by omega) ?_
  show Go g (11) (559) sh422 M423 (a + 12) 85 [(0, vr a), (1, vr s), (2, vr c), (3, vr k), (4, vr g_), (5, vr w)] [vr (a + 10), vr a]
  have e428 : sh422 a = some (.inl (9, ts_Machine)) := hu426.s (by omega) e392
  have e429 : sh422 (a + 6) = some (.inr (.int, 144)) := hu426.s (by omega) e393
  have e430 : sh422 (a + 7) = some (.inr (.long, 144)) := hu426.s (by omega) e394
  have e431 : sh422 (a + 8) = some (.inr (.int, 6)) := hu426.s (by omega) e395
  have e432 : sh422 (a + 9) = some (.inr (.int, 4)) := hu426.s (by omega) e396
  have e433 : M423 a 10 < 0 := hu426.n (by omega) e397
  have e434 : M423 a 11 < 0 := hu426.n (by omega) e398
  have e435 : M423 a 12 < 0 := hu426.n (by omega) e399
  have e436 : M423 a 13 < 0 := hu426.n (by omega) e400
  have e437 : M423 a 14 < 0 := hu426.n (by omega) e401
  have e438 : M423 a 15 = (-1) := hu426.m (by omega) e402
  have e439 : M423 a 16 = 0 := hu426.m (by omega) e403
  have e440 : M423 a 0 = s := hu426.m (by omega) e404
  have e441 : M423 a 1 = c := hu426.m (by omega) e405
  have e442 : M423 a 2 = k := hu426.m (by omega) e406
  have e443 : M423 a 3 = g_ := hu426.m (by omega) e407
  have e444 : M423 a 4 = w := hu426.m (by omega) e408
  have e445 : M423 a 5 = a + 1 := hu426.m (by omega) e409
  have e446 : M423 a 6 = a + 6 := hu426.m (by omega) e410
  have e447 : M423 a 7 = a + 7 := hu426.m (by omega) e411
  have e448 : M423 a 8 = a + 8 := hu426.m (by omega) e412
  have e449 : M423 a 9 = a + 9 := hu426.m (by omega) e413
  have rw450 : M423 (a + 6) = (fun _ => 0) := hu426.r (by omega) rw414
  have rw451 : M423 (a + 7) = (fun _ => 0) := hu426.r (by omega) rw415
  have rw452 : M423 (a + 8) = (fun _ => 0) := hu426.r (by omega) rw416
  have rw453 : M423 (a + 9) = (fun _ => 0) := hu426.r (by omega) rw417
  have pd454 : pez sh422 M423 (a + 1) := pd418.mv (hu426.as (by omega))
  have up455 : up a sh M sh422 M423 := up419.tr hu426 (by omega)
  clear e392 e393 e394 e395 e396 e397 e398 e399 e400 e401 e402 e403 e404 e405 e406 e407 e408 e409 e410 e411 e412 e413 e420 pd418 rw414 rw415 rw416 rw417 rw421
  have e456 : sh422 (a + 10) = some (.inl (0, ts_Text)) := pd427.1.1
  clear hu426 e425
  refine go_putF (x := (a + 10)) (v := vr (a + 10)) X f_Machine_56 rfl e428 rfl d_Machine_init_85 (s_vref rfl (by omega)) rfl rfl f_Machine_56w ?_
  generalize hM458 : m_s M423 a 10 (a + 10) = M457
  have e459 : M457 a 11 < 0 := by rw [← hM458, m_s_n (fun q => absurd q.2 (by decide))]; exact e434
  have e460 : M457 a 12 < 0 := by rw [← hM458, m_s_n (fun q => absurd q.2 (by decide))]; exact e435
  have e461 : M457 a 13 < 0 := by rw [← hM458, m_s_n (fun q => absurd q.2 (by decide))]; exact e436
  have e462 : M457 a 14 < 0 := by rw [← hM458, m_s_n (fun q => absurd q.2 (by decide))]; exact e437
  have e463 : M457 a 15 = (-1) := by rw [← hM458]; exact (m_s_n (fun q => absurd q.2 (by decide))).trans e438
  have e464 : M457 a 16 = 0 := by rw [← hM458]; exact (m_s_n (fun q => absurd q.2 (by decide))).trans e439
  have e465 : M457 a 0 = s := by rw [← hM458]; exact (m_s_n (fun q => absurd q.2 (by decide))).trans e440
  have e466 : M457 a 1 = c := by rw [← hM458]; exact (m_s_n (fun q => absurd q.2 (by decide))).trans e441
  have e467 : M457 a 2 = k := by rw [← hM458]; exact (m_s_n (fun q => absurd q.2 (by decide))).trans e442
  have e468 : M457 a 3 = g_ := by rw [← hM458]; exact (m_s_n (fun q => absurd q.2 (by decide))).trans e443
  have e469 : M457 a 4 = w := by rw [← hM458]; exact (m_s_n (fun q => absurd q.2 (by decide))).trans e444
  have e470 : M457 a 5 = a + 1 := by rw [← hM458]; exact (m_s_n (fun q => absurd q.2 (by decide))).trans e445
  have e471 : M457 a 6 = a + 6 := by rw [← hM458]; exact (m_s_n (fun q => absurd q.2 (by decide))).trans e446
  have e472 : M457 a 7 = a + 7 := by rw [← hM458]; exact (m_s_n (fun q => absurd q.2 (by decide))).trans e447
  have e473 : M457 a 8 = a + 8 := by rw [← hM458]; exact (m_s_n (fun q => absurd q.2 (by decide))).trans e448
  have e474 : M457 a 9 = a + 9 := by rw [← hM458]; exact (m_s_n (fun q => absurd q.2 (by decide))).trans e449
  have rw475 : M457 (a + 6) = (fun _ => 0) := by rw [← hM458]; exact (m_s_a (of_ne0 (by decide))).trans rw450
  have rw476 : M457 (a + 7) = (fun _ => 0) := by rw [← hM458]; exact (m_s_a (of_ne0 (by decide))).trans rw451
  have rw477 : M457 (a + 8) = (fun _ => 0) := by rw [← hM458]; exact (m_s_a (of_ne0 (by decide))).trans rw452
  have rw478 : M457 (a + 9) = (fun _ => 0) := by rw [← hM458]; exact (m_s_a (of_ne0 (by decide))).trans rw453
  have pd479 : pez sh422 M457 (a + 1) := by rw [← hM458]; exact pd454.mv (as_set (by omega))
  have pd480 : tv sh422 M457 (a + 10) 60 [] := by rw [← hM458]; exact pd427.mv (as_set (by omega))
  have e481 : M457 a 10 = a + 10 := by rw [← hM458, m_s_s]
  have up482 : up a sh M sh422 M457 := by rw [← hM458]; exact up455.set (by omega)
  clear e433 e434 e435 e436 e437 e438 e439 e440 e441 e442 e443 e444 e445 e446 e447 e448 e449 pd427 pd454 rw450 rw451 rw452 rw453 up455 hM458
  refine go_aload_n X d_Machine_init_88 rfl rfl ?_
  refine go_new (ts := ts_Text) (f := (fun j => if j = 0 then -1 else 0)) X cls0_ok w_cl_Machine_51 w_in_0 w_ini_0 (by decide) (by decide) (by omega) (by omega) d_Machine_init_89 ?_
  generalize hs484 : s_up sh422 (a + 12) (.inl (0, ts_Text)) = sh483
  generalize hM486 : m_new M457 (a + 12) (fun j => if j = 0 then -1 else 0) = M485
  have hu487 : up (a + 12) sh422 M457 sh483 M485 := by rw [← hs484, ← hM486]; exact up.new
  have e488 : sh483 a = some (.inl (9, ts_Machine)) := hu487.s (by omega) e428
  have e489 : sh483 (a + 6) = some (.inr (.int, 144)) := hu487.s (by omega) e429
  have e490 : sh483 (a + 7) = some (.inr (.long, 144)) := hu487.s (by omega) e430
  have e491 : sh483 (a + 8) = some (.inr (.int, 6)) := hu487.s (by omega) e431
  have e492 : sh483 (a + 9) = some (.inr (.int, 4)) := hu487.s (by omega) e432
  have e493 : sh483 (a + 10) = some (.inl (0, ts_Text)) := hu487.s (by omega) e456
  have e494 : M485 a 11 < 0 := hu487.n (by omega) e459
  have e495 : M485 a 12 < 0 := hu487.n (by omega) e460
  have e496 : M485 a 13 < 0 := hu487.n (by omega) e461
  have e497 : M485 a 14 < 0 := hu487.n (by omega) e462
  have e498 : M485 a 15 = (-1) := hu487.m (by omega) e463
  have e499 : M485 a 16 = 0 := hu487.m (by omega) e464
  have e500 : M485 a 0 = s := hu487.m (by omega) e465
  have e501 : M485 a 1 = c := hu487.m (by omega) e466
  have e502 : M485 a 2 = k := hu487.m (by omega) e467
  have e503 : M485 a 3 = g_ := hu487.m (by omega) e468
  have e504 : M485 a 4 = w := hu487.m (by omega) e469
  have e505 : M485 a 5 = a + 1 := hu487.m (by omega) e470
  have e506 : M485 a 6 = a + 6 := hu487.m (by omega) e471
  have e507 : M485 a 7 = a + 7 := hu487.m (by omega) e472
  have e508 : M485 a 8 = a + 8 := hu487.m (by omega) e473
  have e509 : M485 a 9 = a + 9 := hu487.m (by omega) e474
  have e510 : M485 a 10 = a + 10 := hu487.m (by omega) e481
  have rw511 : M485 (a + 6) = (fun _ => 0) := hu487.r (by omega) rw475
  have rw512 : M485 (a + 7) = (fun _ => 0) := hu487.r (by omega) rw476
  have rw513 : M485 (a + 8) = (fun _ => 0) := hu487.r (by omega) rw477
  have rw514 : M485 (a + 9) = (fun _ => 0) := hu487.r (by omega) rw478
  have pd515 : pez sh483 M485 (a + 1) := pd479.mv (hu487.as (by omega))
  have pd516 : tv sh483 M485 (a + 10) 60 [] := pd480.mv (hu487.as (by omega))
  have up517 : up a sh M sh483 M485 := up482.tr hu487 (by omega)
  clear e428 e429 e430 e431 e432 e456 e459 e460 e461 e462 e463 e464 e465 e466 e467 e468 e469 e470 e471 e472 e473 e474 e481 pd479 pd480 rw475 rw476 rw477 rw478
  have e518 : sh483 (a + 12) = some (.inl (0, ts_Text)) := by rw [← hs484, s_up_s]
  have rw519 : M485 (a + 12) = (fun j => if j = 0 then -1 else 0) := by rw [← hM486, m_new_s]
  clear hs484 hM486 hu487
  refine go_kn (k' := 12) (n' := 561) (sz' := a + 13) (by omega) (by omega) (by omega) ?_
  refine go_dup X d_Machine_init_92 rfl ?_
  refine go_bipush (v := 60) X d_Machine_init_93 (by decide) ?_
  refine go_cI (st2 := []) (r := [vr (a + 12), vr a]) X k_Machine_53 (c_Text_init l D e518 rw519 (by omega) (by omega) (N := 60) rfl (by decide)) rfl rfl (by omega) (Nat.le_of_ble_eq_true rfl) d_Machine_init_95 (by omega) (by omega) (fun v sh520 M521 sz' hp => ?_)
  obtain ⟨e522, e523, hu524, pd525⟩ := hp
  subst e522
  refine go_kn (k' := 13) (n' := 621) (sz' := a + 14) (by omega) (by omega) (by omega) ?_
  show Go g (13) (621) sh520 M521 (a + 14) 98 [(0, vr a), (1, vr s), (2, vr c), (3, vr k), (4, vr g_), (5, vr w)] [vr (a + 12), vr a]
  have e526 : sh520 a = some (.inl (9, ts_Machine)) := hu524.s (by omega) e488
  have e527 : sh520 (a + 6) = some (.inr (.int, 144)) := hu524.s (by omega) e489
  have e528 : sh520 (a + 7) = some (.inr (.long, 144)) := hu524.s (by omega) e490
  have e529 : sh520 (a + 8) = some (.inr (.int, 6)) := hu524.s (by omega) e491
  have e530 : sh520 (a + 9) = some (.inr (.int, 4)) := hu524.s (by omega) e492
  have e531 : sh520 (a + 10) = some (.inl (0, ts_Text)) := hu524.s (by omega) e493
  have e532 : M521 a 11 < 0 := hu524.n (by omega) e494
  have e533 : M521 a 12 < 0 := hu524.n (by omega) e495
  have e534 : M521 a 13 < 0 := hu524.n (by omega) e496
  have e535 : M521 a 14 < 0 := hu524.n (by omega) e497
  have e536 : M521 a 15 = (-1) := hu524.m (by omega) e498
  have e537 : M521 a 16 = 0 := hu524.m (by omega) e499
  have e538 : M521 a 0 = s := hu524.m (by omega) e500
  have e539 : M521 a 1 = c := hu524.m (by omega) e501
  have e540 : M521 a 2 = k := hu524.m (by omega) e502
  have e541 : M521 a 3 = g_ := hu524.m (by omega) e503
  have e542 : M521 a 4 = w := hu524.m (by omega) e504
  have e543 : M521 a 5 = a + 1 := hu524.m (by omega) e505
  have e544 : M521 a 6 = a + 6 := hu524.m (by omega) e506
  have e545 : M521 a 7 = a + 7 := hu524.m (by omega) e507
  have e546 : M521 a 8 = a + 8 := hu524.m (by omega) e508
  have e547 : M521 a 9 = a + 9 := hu524.m (by omega) e509
  have e548 : M521 a 10 = a + 10 := hu524.m (by omega) e510
  have rw549 : M521 (a + 6) = (fun _ => 0) := hu524.r (by omega) rw511
  have rw550 : M521 (a + 7) = (fun _ => 0) := hu524.r (by omega) rw512
  have rw551 : M521 (a + 8) = (fun _ => 0) := hu524.r (by omega) rw513
  have rw552 : M521 (a + 9) = (fun _ => 0) := hu524.r (by omega) rw514
  have pd553 : pez sh520 M521 (a + 1) := pd515.mv (hu524.as (by omega))
  have pd554 : tv sh520 M521 (a + 10) 60 [] := pd516.mv (hu524.as (by omega))
  have up555 : up a sh M sh520 M521 := up517.tr hu524 (by omega)
  clear e488 e489 e490 e491 e492 e493 e494 e495 e496 e497 e498 e499 e500 e501 e502 e503 e504 e505 e506 e507 e508 e509 e510 e518 pd515 pd516 rw511 rw512 rw513 rw514 rw519
  have e556 : sh520 (a + 12) = some (.inl (0, ts_Text)) := pd525.1.1
  clear hu524 e523
  refine go_putF (x := (a + 12)) (v := vr (a + 12)) X f_Machine_60 rfl e526 rfl d_Machine_init_98 (s_vref rfl (by omega)) rfl rfl f_Machine_60w ?_
  generalize hM558 : m_s M521 a 11 (a + 12) = M557
  have e559 : M557 a 12 < 0 := by rw [← hM558, m_s_n (fun q => absurd q.2 (by decide))]; exact e533
  have e560 : M557 a 13 < 0 := by rw [← hM558, m_s_n (fun q => absurd q.2 (by decide))]; exact e534
  have e561 : M557 a 14 < 0 := by rw [← hM558, m_s_n (fun q => absurd q.2 (by decide))]; exact e535
  have e562 : M557 a 15 = (-1) := by rw [← hM558]; exact (m_s_n (fun q => absurd q.2 (by decide))).trans e536
  have e563 : M557 a 16 = 0 := by rw [← hM558]; exact (m_s_n (fun q => absurd q.2 (by decide))).trans e537
  have e564 : M557 a 0 = s := by rw [← hM558]; exact (m_s_n (fun q => absurd q.2 (by decide))).trans e538
  have e565 : M557 a 1 = c := by rw [← hM558]; exact (m_s_n (fun q => absurd q.2 (by decide))).trans e539
  have e566 : M557 a 2 = k := by rw [← hM558]; exact (m_s_n (fun q => absurd q.2 (by decide))).trans e540
  have e567 : M557 a 3 = g_ := by rw [← hM558]; exact (m_s_n (fun q => absurd q.2 (by decide))).trans e541
  have e568 : M557 a 4 = w := by rw [← hM558]; exact (m_s_n (fun q => absurd q.2 (by decide))).trans e542
  have e569 : M557 a 5 = a + 1 := by rw [← hM558]; exact (m_s_n (fun q => absurd q.2 (by decide))).trans e543
  have e570 : M557 a 6 = a + 6 := by rw [← hM558]; exact (m_s_n (fun q => absurd q.2 (by decide))).trans e544
  have e571 : M557 a 7 = a + 7 := by rw [← hM558]; exact (m_s_n (fun q => absurd q.2 (by decide))).trans e545
  have e572 : M557 a 8 = a + 8 := by rw [← hM558]; exact (m_s_n (fun q => absurd q.2 (by decide))).trans e546
  have e573 : M557 a 9 = a + 9 := by rw [← hM558]; exact (m_s_n (fun q => absurd q.2 (by decide))).trans e547
  have e574 : M557 a 10 = a + 10 := by rw [← hM558]; exact (m_s_n (fun q => absurd q.2 (by decide))).trans e548
  have rw575 : M557 (a + 6) = (fun _ => 0) := by rw [← hM558]; exact (m_s_a (of_ne0 (by decide))).trans rw549
  have rw576 : M557 (a + 7) = (fun _ => 0) := by rw [← hM558]; exact (m_s_a (of_ne0 (by decide))).trans rw550
  have rw577 : M557 (a + 8) = (fun _ => 0) := by rw [← hM558]; exact (m_s_a (of_ne0 (by decide))).trans rw551
  have rw578 : M557 (a + 9) = (fun _ => 0) := by rw [← hM558]; exact (m_s_a (of_ne0 (by decide))).trans rw552
  have pd579 : pez sh520 M557 (a + 1) := by rw [← hM558]; exact pd553.mv (as_set (by omega))
  have pd580 : tv sh520 M557 (a + 10) 60 [] := by rw [← hM558]; exact pd554.mv (as_set (by omega))
  have pd581 : tv sh520 M557 (a + 12) 60 [] := by rw [← hM558]; exact pd525.mv (as_set (by omega))
  have e582 : M557 a 11 = a + 12 := by rw [← hM558, m_s_s]
  have up583 : up a sh M sh520 M557 := by rw [← hM558]; exact up555.set (by omega)
  clear e532 e533 e534 e535 e536 e537 e538 e539 e540 e541 e542 e543 e544 e545 e546 e547 e548 pd525 pd553 pd554 rw549 rw550 rw551 rw552 up555 hM558
  refine go_aload_n X d_Machine_init_101 rfl rfl ?_
  refine go_new (ts := ts_Text) (f := (fun j => if j = 0 then -1 else 0)) X cls0_ok w_cl_Machine_51 w_in_0 w_ini_0 (by decide) (by decide) (by omega) (by omega) d_Machine_init_102 ?_
  generalize hs585 : s_up sh520 (a + 14) (.inl (0, ts_Text)) = sh584
  generalize hM587 : m_new M557 (a + 14) (fun j => if j = 0 then -1 else 0) = M586
  have hu588 : up (a + 14) sh520 M557 sh584 M586 := by rw [← hs585, ← hM587]; exact up.new
  have e589 : sh584 a = some (.inl (9, ts_Machine)) := hu588.s (by omega) e526
  have e590 : sh584 (a + 6) = some (.inr (.int, 144)) := hu588.s (by omega) e527
  have e591 : sh584 (a + 7) = some (.inr (.long, 144)) := hu588.s (by omega) e528
  have e592 : sh584 (a + 8) = some (.inr (.int, 6)) := hu588.s (by omega) e529
  have e593 : sh584 (a + 9) = some (.inr (.int, 4)) := hu588.s (by omega) e530
  have e594 : sh584 (a + 10) = some (.inl (0, ts_Text)) := hu588.s (by omega) e531
  have e595 : sh584 (a + 12) = some (.inl (0, ts_Text)) := hu588.s (by omega) e556
  have e596 : M586 a 12 < 0 := hu588.n (by omega) e559
  have e597 : M586 a 13 < 0 := hu588.n (by omega) e560
  have e598 : M586 a 14 < 0 := hu588.n (by omega) e561
  have e599 : M586 a 15 = (-1) := hu588.m (by omega) e562
  have e600 : M586 a 16 = 0 := hu588.m (by omega) e563
  have e601 : M586 a 0 = s := hu588.m (by omega) e564
  have e602 : M586 a 1 = c := hu588.m (by omega) e565
  have e603 : M586 a 2 = k := hu588.m (by omega) e566
  have e604 : M586 a 3 = g_ := hu588.m (by omega) e567
  have e605 : M586 a 4 = w := hu588.m (by omega) e568
  have e606 : M586 a 5 = a + 1 := hu588.m (by omega) e569
  have e607 : M586 a 6 = a + 6 := hu588.m (by omega) e570
  have e608 : M586 a 7 = a + 7 := hu588.m (by omega) e571
  have e609 : M586 a 8 = a + 8 := hu588.m (by omega) e572
  have e610 : M586 a 9 = a + 9 := hu588.m (by omega) e573
  have e611 : M586 a 10 = a + 10 := hu588.m (by omega) e574
  have e612 : M586 a 11 = a + 12 := hu588.m (by omega) e582
  have rw613 : M586 (a + 6) = (fun _ => 0) := hu588.r (by omega) rw575
  have rw614 : M586 (a + 7) = (fun _ => 0) := hu588.r (by omega) rw576
  have rw615 : M586 (a + 8) = (fun _ => 0) := hu588.r (by omega) rw577
  have rw616 : M586 (a + 9) = (fun _ => 0) := hu588.r (by omega) rw578
  have pd617 : pez sh584 M586 (a + 1) := pd579.mv (hu588.as (by omega))
  have pd618 : tv sh584 M586 (a + 10) 60 [] := pd580.mv (hu588.as (by omega))
  have pd619 : tv sh584 M586 (a + 12) 60 [] := pd581.mv (hu588.as (by omega))
  have up620 : up a sh M sh584 M586 := up583.tr hu588 (by omega)
  clear e526 e527 e528 e529 e530 e531 e556 e559 e560 e561 e562 e563 e564 e565 e566 e567 e568 e569 e570 e571 e572 e573 e574 e582 pd579 pd580 pd581 rw575 rw576 rw577 rw578
  have e621 : sh584 (a + 14) = some (.inl (0, ts_Text)) := by rw [← hs585, s_up_s]
  have rw622 : M586 (a + 14) = (fun j => if j = 0 then -1 else 0) := by rw [← hM587, m_new_s]
  clear hs585 hM587 hu588
  refine go_kn (k' := 14) (n' := 623) (sz' := a + 15) (by omega) (by omega) (by omega) ?_
  refine go_dup X d_Machine_init_105 rfl ?_
  refine go_bipush (v := 60) X d_Machine_init_106 (by decide) ?_
  refine go_cI (st2 := []) (r := [vr (a + 14), vr a]) X k_Machine_53 (c_Text_init l D e621 rw622 (by omega) (by omega) (N := 60) rfl (by decide)) rfl rfl (by omega) (Nat.le_of_ble_eq_true rfl) d_Machine_init_108 (by omega) (by omega) (fun v sh623 M624 sz' hp => ?_)
  obtain ⟨e625, e626, hu627, pd628⟩ := hp
  subst e625
  refine go_kn (k' := 15) (n' := 683) (sz' := a + 16) (by omega) (by omega) (by omega) ?_
  show Go g (15) (683) sh623 M624 (a + 16) 111 [(0, vr a), (1, vr s), (2, vr c), (3, vr k), (4, vr g_), (5, vr w)] [vr (a + 14), vr a]
  have e629 : sh623 a = some (.inl (9, ts_Machine)) := hu627.s (by omega) e589
  have e630 : sh623 (a + 6) = some (.inr (.int, 144)) := hu627.s (by omega) e590
  have e631 : sh623 (a + 7) = some (.inr (.long, 144)) := hu627.s (by omega) e591
  have e632 : sh623 (a + 8) = some (.inr (.int, 6)) := hu627.s (by omega) e592
  have e633 : sh623 (a + 9) = some (.inr (.int, 4)) := hu627.s (by omega) e593
  have e634 : sh623 (a + 10) = some (.inl (0, ts_Text)) := hu627.s (by omega) e594
  have e635 : sh623 (a + 12) = some (.inl (0, ts_Text)) := hu627.s (by omega) e595
  have e636 : M624 a 12 < 0 := hu627.n (by omega) e596
  have e637 : M624 a 13 < 0 := hu627.n (by omega) e597
  have e638 : M624 a 14 < 0 := hu627.n (by omega) e598
  have e639 : M624 a 15 = (-1) := hu627.m (by omega) e599
  have e640 : M624 a 16 = 0 := hu627.m (by omega) e600
  have e641 : M624 a 0 = s := hu627.m (by omega) e601
  have e642 : M624 a 1 = c := hu627.m (by omega) e602
  have e643 : M624 a 2 = k := hu627.m (by omega) e603
  have e644 : M624 a 3 = g_ := hu627.m (by omega) e604
  have e645 : M624 a 4 = w := hu627.m (by omega) e605
  have e646 : M624 a 5 = a + 1 := hu627.m (by omega) e606
  have e647 : M624 a 6 = a + 6 := hu627.m (by omega) e607
  have e648 : M624 a 7 = a + 7 := hu627.m (by omega) e608
  have e649 : M624 a 8 = a + 8 := hu627.m (by omega) e609
  have e650 : M624 a 9 = a + 9 := hu627.m (by omega) e610
  have e651 : M624 a 10 = a + 10 := hu627.m (by omega) e611
  have e652 : M624 a 11 = a + 12 := hu627.m (by omega) e612
  have rw653 : M624 (a + 6) = (fun _ => 0) := hu627.r (by omega) rw613
  have rw654 : M624 (a + 7) = (fun _ => 0) := hu627.r (by omega) rw614
  have rw655 : M624 (a + 8) = (fun _ => 0) := hu627.r (by omega) rw615
  have rw656 : M624 (a + 9) = (fun _ => 0) := hu627.r (by omega) rw616
  have pd657 : pez sh623 M624 (a + 1) := pd617.mv (hu627.as (by omega))
  have pd658 : tv sh623 M624 (a + 10) 60 [] := pd618.mv (hu627.as (by omega))
  have pd659 : tv sh623 M624 (a + 12) 60 [] := pd619.mv (hu627.as (by omega))
  have up660 : up a sh M sh623 M624 := up620.tr hu627 (by omega)
  clear e589 e590 e591 e592 e593 e594 e595 e596 e597 e598 e599 e600 e601 e602 e603 e604 e605 e606 e607 e608 e609 e610 e611 e612 e621 pd617 pd618 pd619 rw613 rw614 rw615 rw616 rw622
  have e661 : sh623 (a + 14) = some (.inl (0, ts_Text)) := pd628.1.1
  clear hu627 e626
  refine go_putF (x := (a + 14)) (v := vr (a + 14)) X f_Machine_63 rfl e629 rfl d_Machine_init_111 (s_vref rfl (by omega)) rfl rfl f_Machine_63w ?_
  generalize hM663 : m_s M624 a 12 (a + 14) = M662
  have e664 : M662 a 13 < 0 := by rw [← hM663, m_s_n (fun q => absurd q.2 (by decide))]; exact e637
  have e665 : M662 a 14 < 0 := by rw [← hM663, m_s_n (fun q => absurd q.2 (by decide))]; exact e638
  have e666 : M662 a 15 = (-1) := by rw [← hM663]; exact (m_s_n (fun q => absurd q.2 (by decide))).trans e639
  have e667 : M662 a 16 = 0 := by rw [← hM663]; exact (m_s_n (fun q => absurd q.2 (by decide))).trans e640
  have e668 : M662 a 0 = s := by rw [← hM663]; exact (m_s_n (fun q => absurd q.2 (by decide))).trans e641
  have e669 : M662 a 1 = c := by rw [← hM663]; exact (m_s_n (fun q => absurd q.2 (by decide))).trans e642
  have e670 : M662 a 2 = k := by rw [← hM663]; exact (m_s_n (fun q => absurd q.2 (by decide))).trans e643
  have e671 : M662 a 3 = g_ := by rw [← hM663]; exact (m_s_n (fun q => absurd q.2 (by decide))).trans e644
  have e672 : M662 a 4 = w := by rw [← hM663]; exact (m_s_n (fun q => absurd q.2 (by decide))).trans e645
  have e673 : M662 a 5 = a + 1 := by rw [← hM663]; exact (m_s_n (fun q => absurd q.2 (by decide))).trans e646
  have e674 : M662 a 6 = a + 6 := by rw [← hM663]; exact (m_s_n (fun q => absurd q.2 (by decide))).trans e647
  have e675 : M662 a 7 = a + 7 := by rw [← hM663]; exact (m_s_n (fun q => absurd q.2 (by decide))).trans e648
  have e676 : M662 a 8 = a + 8 := by rw [← hM663]; exact (m_s_n (fun q => absurd q.2 (by decide))).trans e649
  have e677 : M662 a 9 = a + 9 := by rw [← hM663]; exact (m_s_n (fun q => absurd q.2 (by decide))).trans e650
  have e678 : M662 a 10 = a + 10 := by rw [← hM663]; exact (m_s_n (fun q => absurd q.2 (by decide))).trans e651
  have e679 : M662 a 11 = a + 12 := by rw [← hM663]; exact (m_s_n (fun q => absurd q.2 (by decide))).trans e652
  have rw680 : M662 (a + 6) = (fun _ => 0) := by rw [← hM663]; exact (m_s_a (of_ne0 (by decide))).trans rw653
  have rw681 : M662 (a + 7) = (fun _ => 0) := by rw [← hM663]; exact (m_s_a (of_ne0 (by decide))).trans rw654
  have rw682 : M662 (a + 8) = (fun _ => 0) := by rw [← hM663]; exact (m_s_a (of_ne0 (by decide))).trans rw655
  have rw683 : M662 (a + 9) = (fun _ => 0) := by rw [← hM663]; exact (m_s_a (of_ne0 (by decide))).trans rw656
  have pd684 : pez sh623 M662 (a + 1) := by rw [← hM663]; exact pd657.mv (as_set (by omega))
  have pd685 : tv sh623 M662 (a + 10) 60 [] := by rw [← hM663]; exact pd658.mv (as_set (by omega))
  have pd686 : tv sh623 M662 (a + 12) 60 [] := by rw [← hM663]; exact pd659.mv (as_set (by omega))
  have pd687 : tv sh623 M662 (a + 14) 60 [] := by rw [← hM663]; exact pd628.mv (as_set (by omega))
  have e688 : M662 a 12 = a + 14 := by rw [← hM663, m_s_s]
  have up689 : up a sh M sh623 M662 := by rw [← hM663]; exact up660.set (by omega)
  clear e636 e637 e638 e639 e640 e641 e642 e643 e644 e645 e646 e647 e648 e649 e650 e651 e652 pd628 pd657 pd658 pd659 rw653 rw654 rw655 rw656 up660 hM663
  refine go_aload_n X d_Machine_init_114 rfl rfl ?_
  refine go_new (ts := ts_Value) (f := (fun j => if j = 2 then -1 else 0)) X cls5_ok w_cl_Machine_66 w_in_5 w_ini_5 (by decide) (by decide) (by omega) (by omega) d_Machine_init_115 ?_
  generalize hs691 : s_up sh623 (a + 16) (.inl (5, ts_Value)) = sh690
  generalize hM693 : m_new M662 (a + 16) (fun j => if j = 2 then -1 else 0) = M692
  have hu694 : up (a + 16) sh623 M662 sh690 M692 := by rw [← hs691, ← hM693]; exact up.new
  have e695 : sh690 a = some (.inl (9, ts_Machine)) := hu694.s (by omega) e629
  have e696 : sh690 (a + 6) = some (.inr (.int, 144)) := hu694.s (by omega) e630
  have e697 : sh690 (a + 7) = some (.inr (.long, 144)) := hu694.s (by omega) e631
  have e698 : sh690 (a + 8) = some (.inr (.int, 6)) := hu694.s (by omega) e632
  have e699 : sh690 (a + 9) = some (.inr (.int, 4)) := hu694.s (by omega) e633
  have e700 : sh690 (a + 10) = some (.inl (0, ts_Text)) := hu694.s (by omega) e634
  have e701 : sh690 (a + 12) = some (.inl (0, ts_Text)) := hu694.s (by omega) e635
  have e702 : sh690 (a + 14) = some (.inl (0, ts_Text)) := hu694.s (by omega) e661
  have e703 : M692 a 13 < 0 := hu694.n (by omega) e664
  have e704 : M692 a 14 < 0 := hu694.n (by omega) e665
  have e705 : M692 a 15 = (-1) := hu694.m (by omega) e666
  have e706 : M692 a 16 = 0 := hu694.m (by omega) e667
  have e707 : M692 a 0 = s := hu694.m (by omega) e668
  have e708 : M692 a 1 = c := hu694.m (by omega) e669
  have e709 : M692 a 2 = k := hu694.m (by omega) e670
  have e710 : M692 a 3 = g_ := hu694.m (by omega) e671
  have e711 : M692 a 4 = w := hu694.m (by omega) e672
  have e712 : M692 a 5 = a + 1 := hu694.m (by omega) e673
  have e713 : M692 a 6 = a + 6 := hu694.m (by omega) e674
  have e714 : M692 a 7 = a + 7 := hu694.m (by omega) e675
  have e715 : M692 a 8 = a + 8 := hu694.m (by omega) e676
  have e716 : M692 a 9 = a + 9 := hu694.m (by omega) e677
  have e717 : M692 a 10 = a + 10 := hu694.m (by omega) e678
  have e718 : M692 a 11 = a + 12 := hu694.m (by omega) e679
  have e719 : M692 a 12 = a + 14 := hu694.m (by omega) e688
  have rw720 : M692 (a + 6) = (fun _ => 0) := hu694.r (by omega) rw680
  have rw721 : M692 (a + 7) = (fun _ => 0) := hu694.r (by omega) rw681
  have rw722 : M692 (a + 8) = (fun _ => 0) := hu694.r (by omega) rw682
  have rw723 : M692 (a + 9) = (fun _ => 0) := hu694.r (by omega) rw683
  have pd724 : pez sh690 M692 (a + 1) := pd684.mv (hu694.as (by omega))
  have pd725 : tv sh690 M692 (a + 10) 60 [] := pd685.mv (hu694.as (by omega))
  have pd726 : tv sh690 M692 (a + 12) 60 [] := pd686.mv (hu694.as (by omega))
  have pd727 : tv sh690 M692 (a + 14) 60 [] := pd687.mv (hu694.as (by omega))
  have up728 : up a sh M sh690 M692 := up689.tr hu694 (by omega)
  clear e629 e630 e631 e632 e633 e634 e635 e661 e664 e665 e666 e667 e668 e669 e670 e671 e672 e673 e674 e675 e676 e677 e678 e679 e688 pd684 pd685 pd686 pd687 rw680 rw681 rw682 rw683
  have e729 : sh690 (a + 16) = some (.inl (5, ts_Value)) := by rw [← hs691, s_up_s]
  have rw730 : M692 (a + 16) = (fun j => if j = 2 then -1 else 0) := by rw [← hM693, m_new_s]
  clear hs691 hM693 hu694
  refine go_kn (k' := 16) (n' := 686) (sz' := a + 17) (by omega) (by omega) (by omega) ?_
  refine go_dup X d_Machine_init_118 rfl ?_
  refine go_cI (st2 := []) (r := [vr (a + 16), vr a]) X k_Machine_68 (c_Value_init l D e729 rw730 (by omega) (by omega)) rfl rfl (by omega) (Nat.le_of_ble_eq_true rfl) d_Machine_init_119 (by omega) (by omega) (fun v sh731 M732 sz' hp => ?_)
  obtain ⟨e733, e734, hu735, pd736⟩ := hp
  subst e733
  refine go_kn (k' := 18) (n' := 748) (sz' := a + 19) (by omega) (by omega) (by omega) ?_
  show Go g (18) (748) sh731 M732 (a + 19) 122 [(0, vr a), (1, vr s), (2, vr c), (3, vr k), (4, vr g_), (5, vr w)] [vr (a + 16), vr a]
  have e737 : sh731 a = some (.inl (9, ts_Machine)) := hu735.s (by omega) e695
  have e738 : sh731 (a + 6) = some (.inr (.int, 144)) := hu735.s (by omega) e696
  have e739 : sh731 (a + 7) = some (.inr (.long, 144)) := hu735.s (by omega) e697
  have e740 : sh731 (a + 8) = some (.inr (.int, 6)) := hu735.s (by omega) e698
  have e741 : sh731 (a + 9) = some (.inr (.int, 4)) := hu735.s (by omega) e699
  have e742 : sh731 (a + 10) = some (.inl (0, ts_Text)) := hu735.s (by omega) e700
  have e743 : sh731 (a + 12) = some (.inl (0, ts_Text)) := hu735.s (by omega) e701
  have e744 : sh731 (a + 14) = some (.inl (0, ts_Text)) := hu735.s (by omega) e702
  have e745 : M732 a 13 < 0 := hu735.n (by omega) e703
  have e746 : M732 a 14 < 0 := hu735.n (by omega) e704
  have e747 : M732 a 15 = (-1) := hu735.m (by omega) e705
  have e748 : M732 a 16 = 0 := hu735.m (by omega) e706
  have e749 : M732 a 0 = s := hu735.m (by omega) e707
  have e750 : M732 a 1 = c := hu735.m (by omega) e708
  have e751 : M732 a 2 = k := hu735.m (by omega) e709
  have e752 : M732 a 3 = g_ := hu735.m (by omega) e710
  have e753 : M732 a 4 = w := hu735.m (by omega) e711
  have e754 : M732 a 5 = a + 1 := hu735.m (by omega) e712
  have e755 : M732 a 6 = a + 6 := hu735.m (by omega) e713
  have e756 : M732 a 7 = a + 7 := hu735.m (by omega) e714
  have e757 : M732 a 8 = a + 8 := hu735.m (by omega) e715
  have e758 : M732 a 9 = a + 9 := hu735.m (by omega) e716
  have e759 : M732 a 10 = a + 10 := hu735.m (by omega) e717
  have e760 : M732 a 11 = a + 12 := hu735.m (by omega) e718
  have e761 : M732 a 12 = a + 14 := hu735.m (by omega) e719
  have rw762 : M732 (a + 6) = (fun _ => 0) := hu735.r (by omega) rw720
  have rw763 : M732 (a + 7) = (fun _ => 0) := hu735.r (by omega) rw721
  have rw764 : M732 (a + 8) = (fun _ => 0) := hu735.r (by omega) rw722
  have rw765 : M732 (a + 9) = (fun _ => 0) := hu735.r (by omega) rw723
  have pd766 : pez sh731 M732 (a + 1) := pd724.mv (hu735.as (by omega))
  have pd767 : tv sh731 M732 (a + 10) 60 [] := pd725.mv (hu735.as (by omega))
  have pd768 : tv sh731 M732 (a + 12) 60 [] := pd726.mv (hu735.as (by omega))
  have pd769 : tv sh731 M732 (a + 14) 60 [] := pd727.mv (hu735.as (by omega))
  have up770 : up a sh M sh731 M732 := up728.tr hu735 (by omega)
  clear e695 e696 e697 e698 e699 e700 e701 e702 e703 e704 e705 e706 e707 e708 e709 e710 e711 e712 e713 e714 e715 e716 e717 e718 e719 e729 pd724 pd725 pd726 pd727 rw720 rw721 rw722 rw723 rw730
  have e771 : sh731 (a + 16) = some (.inl (5, ts_Value)) := pd736.1
  clear hu735 e734
  refine go_putF (x := (a + 16)) (v := vr (a + 16)) X f_Machine_69 rfl e737 rfl d_Machine_init_122 (s_vref rfl (by omega)) rfl rfl f_Machine_69w ?_
  generalize hM773 : m_s M732 a 13 (a + 16) = M772
  have e774 : M772 a 14 < 0 := by rw [← hM773, m_s_n (fun q => absurd q.2 (by decide))]; exact e746
  have e775 : M772 a 15 = (-1) := by rw [← hM773]; exact (m_s_n (fun q => absurd q.2 (by decide))).trans e747
  have e776 : M772 a 16 = 0 := by rw [← hM773]; exact (m_s_n (fun q => absurd q.2 (by decide))).trans e748
  have e777 : M772 a 0 = s := by rw [← hM773]; exact (m_s_n (fun q => absurd q.2 (by decide))).trans e749
  have e778 : M772 a 1 = c := by rw [← hM773]; exact (m_s_n (fun q => absurd q.2 (by decide))).trans e750
  have e779 : M772 a 2 = k := by rw [← hM773]; exact (m_s_n (fun q => absurd q.2 (by decide))).trans e751
  have e780 : M772 a 3 = g_ := by rw [← hM773]; exact (m_s_n (fun q => absurd q.2 (by decide))).trans e752
  have e781 : M772 a 4 = w := by rw [← hM773]; exact (m_s_n (fun q => absurd q.2 (by decide))).trans e753
  have e782 : M772 a 5 = a + 1 := by rw [← hM773]; exact (m_s_n (fun q => absurd q.2 (by decide))).trans e754
  have e783 : M772 a 6 = a + 6 := by rw [← hM773]; exact (m_s_n (fun q => absurd q.2 (by decide))).trans e755
  have e784 : M772 a 7 = a + 7 := by rw [← hM773]; exact (m_s_n (fun q => absurd q.2 (by decide))).trans e756
  have e785 : M772 a 8 = a + 8 := by rw [← hM773]; exact (m_s_n (fun q => absurd q.2 (by decide))).trans e757
  have e786 : M772 a 9 = a + 9 := by rw [← hM773]; exact (m_s_n (fun q => absurd q.2 (by decide))).trans e758
  have e787 : M772 a 10 = a + 10 := by rw [← hM773]; exact (m_s_n (fun q => absurd q.2 (by decide))).trans e759
  have e788 : M772 a 11 = a + 12 := by rw [← hM773]; exact (m_s_n (fun q => absurd q.2 (by decide))).trans e760
  have e789 : M772 a 12 = a + 14 := by rw [← hM773]; exact (m_s_n (fun q => absurd q.2 (by decide))).trans e761
  have rw790 : M772 (a + 6) = (fun _ => 0) := by rw [← hM773]; exact (m_s_a (of_ne0 (by decide))).trans rw762
  have rw791 : M772 (a + 7) = (fun _ => 0) := by rw [← hM773]; exact (m_s_a (of_ne0 (by decide))).trans rw763
  have rw792 : M772 (a + 8) = (fun _ => 0) := by rw [← hM773]; exact (m_s_a (of_ne0 (by decide))).trans rw764
  have rw793 : M772 (a + 9) = (fun _ => 0) := by rw [← hM773]; exact (m_s_a (of_ne0 (by decide))).trans rw765
  have pd794 : pez sh731 M772 (a + 1) := by rw [← hM773]; exact pd766.mv (as_set (by omega))
  have pd795 : tv sh731 M772 (a + 10) 60 [] := by rw [← hM773]; exact pd767.mv (as_set (by omega))
  have pd796 : tv sh731 M772 (a + 12) 60 [] := by rw [← hM773]; exact pd768.mv (as_set (by omega))
  have pd797 : tv sh731 M772 (a + 14) 60 [] := by rw [← hM773]; exact pd769.mv (as_set (by omega))
  have pd798 : vv sh731 M772 (a + 16) 0 0 [] := by rw [← hM773]; exact pd736.mv (as_set (by omega))
  have e799 : M772 a 13 = a + 16 := by rw [← hM773, m_s_s]
  have up800 : up a sh M sh731 M772 := by rw [← hM773]; exact up770.set (by omega)
  clear e745 e746 e747 e748 e749 e750 e751 e752 e753 e754 e755 e756 e757 e758 e759 e760 e761 pd736 pd766 pd767 pd768 pd769 rw762 rw763 rw764 rw765 up770 hM773
  refine go_aload_n X d_Machine_init_125 rfl rfl ?_
  refine go_new (ts := ts_Value) (f := (fun j => if j = 2 then -1 else 0)) X cls5_ok w_cl_Machine_66 w_in_5 w_ini_5 (by decide) (by decide) (by omega) (by omega) d_Machine_init_126 ?_
  generalize hs802 : s_up sh731 (a + 19) (.inl (5, ts_Value)) = sh801
  generalize hM804 : m_new M772 (a + 19) (fun j => if j = 2 then -1 else 0) = M803
  have hu805 : up (a + 19) sh731 M772 sh801 M803 := by rw [← hs802, ← hM804]; exact up.new
  have e806 : sh801 a = some (.inl (9, ts_Machine)) := hu805.s (by omega) e737
  have e807 : sh801 (a + 6) = some (.inr (.int, 144)) := hu805.s (by omega) e738
  have e808 : sh801 (a + 7) = some (.inr (.long, 144)) := hu805.s (by omega) e739
  have e809 : sh801 (a + 8) = some (.inr (.int, 6)) := hu805.s (by omega) e740
  have e810 : sh801 (a + 9) = some (.inr (.int, 4)) := hu805.s (by omega) e741
  have e811 : sh801 (a + 10) = some (.inl (0, ts_Text)) := hu805.s (by omega) e742
  have e812 : sh801 (a + 12) = some (.inl (0, ts_Text)) := hu805.s (by omega) e743
  have e813 : sh801 (a + 14) = some (.inl (0, ts_Text)) := hu805.s (by omega) e744
  have e814 : sh801 (a + 16) = some (.inl (5, ts_Value)) := hu805.s (by omega) e771
  have e815 : M803 a 14 < 0 := hu805.n (by omega) e774
  have e816 : M803 a 15 = (-1) := hu805.m (by omega) e775
  have e817 : M803 a 16 = 0 := hu805.m (by omega) e776
  have e818 : M803 a 0 = s := hu805.m (by omega) e777
  have e819 : M803 a 1 = c := hu805.m (by omega) e778
  have e820 : M803 a 2 = k := hu805.m (by omega) e779
  have e821 : M803 a 3 = g_ := hu805.m (by omega) e780
  have e822 : M803 a 4 = w := hu805.m (by omega) e781
  have e823 : M803 a 5 = a + 1 := hu805.m (by omega) e782
  have e824 : M803 a 6 = a + 6 := hu805.m (by omega) e783
  have e825 : M803 a 7 = a + 7 := hu805.m (by omega) e784
  have e826 : M803 a 8 = a + 8 := hu805.m (by omega) e785
  have e827 : M803 a 9 = a + 9 := hu805.m (by omega) e786
  have e828 : M803 a 10 = a + 10 := hu805.m (by omega) e787
  have e829 : M803 a 11 = a + 12 := hu805.m (by omega) e788
  have e830 : M803 a 12 = a + 14 := hu805.m (by omega) e789
  have e831 : M803 a 13 = a + 16 := hu805.m (by omega) e799
  have rw832 : M803 (a + 6) = (fun _ => 0) := hu805.r (by omega) rw790
  have rw833 : M803 (a + 7) = (fun _ => 0) := hu805.r (by omega) rw791
  have rw834 : M803 (a + 8) = (fun _ => 0) := hu805.r (by omega) rw792
  have rw835 : M803 (a + 9) = (fun _ => 0) := hu805.r (by omega) rw793
  have pd836 : pez sh801 M803 (a + 1) := pd794.mv (hu805.as (by omega))
  have pd837 : tv sh801 M803 (a + 10) 60 [] := pd795.mv (hu805.as (by omega))
  have pd838 : tv sh801 M803 (a + 12) 60 [] := pd796.mv (hu805.as (by omega))
  have pd839 : tv sh801 M803 (a + 14) 60 [] := pd797.mv (hu805.as (by omega))
  have pd840 : vv sh801 M803 (a + 16) 0 0 [] := pd798.mv (hu805.as (by omega))
  have up841 : up a sh M sh801 M803 := up800.tr hu805 (by omega)
  clear e737 e738 e739 e740 e741 e742 e743 e744 e771 e774 e775 e776 e777 e778 e779 e780 e781 e782 e783 e784 e785 e786 e787 e788 e789 e799 pd794 pd795 pd796 pd797 pd798 rw790 rw791 rw792 rw793
  have e842 : sh801 (a + 19) = some (.inl (5, ts_Value)) := by rw [← hs802, s_up_s]
  have rw843 : M803 (a + 19) = (fun j => if j = 2 then -1 else 0) := by rw [← hM804, m_new_s]
  clear hs802 hM804 hu805
  refine go_kn (k' := 19) (n' := 751) (sz' := a + 20) (by omega) (by omega) (by omega) ?_
  refine go_dup X d_Machine_init_129 rfl ?_
  refine go_cI (st2 := []) (r := [vr (a + 19), vr a]) X k_Machine_68 (c_Value_init l D e842 rw843 (by omega) (by omega)) rfl rfl (by omega) (Nat.le_of_ble_eq_true rfl) d_Machine_init_130 (by omega) (by omega) (fun v sh844 M845 sz' hp => ?_)
  obtain ⟨e846, e847, hu848, pd849⟩ := hp
  subst e846
  refine go_kn (k' := 21) (n' := 813) (sz' := a + 22) (by omega) (by omega) (by omega) ?_
  show Go g (21) (813) sh844 M845 (a + 22) 133 [(0, vr a), (1, vr s), (2, vr c), (3, vr k), (4, vr g_), (5, vr w)] [vr (a + 19), vr a]
  have e850 : sh844 a = some (.inl (9, ts_Machine)) := hu848.s (by omega) e806
  have e851 : sh844 (a + 6) = some (.inr (.int, 144)) := hu848.s (by omega) e807
  have e852 : sh844 (a + 7) = some (.inr (.long, 144)) := hu848.s (by omega) e808
  have e853 : sh844 (a + 8) = some (.inr (.int, 6)) := hu848.s (by omega) e809
  have e854 : sh844 (a + 9) = some (.inr (.int, 4)) := hu848.s (by omega) e810
  have e855 : sh844 (a + 10) = some (.inl (0, ts_Text)) := hu848.s (by omega) e811
  have e856 : sh844 (a + 12) = some (.inl (0, ts_Text)) := hu848.s (by omega) e812
  have e857 : sh844 (a + 14) = some (.inl (0, ts_Text)) := hu848.s (by omega) e813
  have e858 : sh844 (a + 16) = some (.inl (5, ts_Value)) := hu848.s (by omega) e814
  have e859 : M845 a 14 < 0 := hu848.n (by omega) e815
  have e860 : M845 a 15 = (-1) := hu848.m (by omega) e816
  have e861 : M845 a 16 = 0 := hu848.m (by omega) e817
  have e862 : M845 a 0 = s := hu848.m (by omega) e818
  have e863 : M845 a 1 = c := hu848.m (by omega) e819
  have e864 : M845 a 2 = k := hu848.m (by omega) e820
  have e865 : M845 a 3 = g_ := hu848.m (by omega) e821
  have e866 : M845 a 4 = w := hu848.m (by omega) e822
  have e867 : M845 a 5 = a + 1 := hu848.m (by omega) e823
  have e868 : M845 a 6 = a + 6 := hu848.m (by omega) e824
  have e869 : M845 a 7 = a + 7 := hu848.m (by omega) e825
  have e870 : M845 a 8 = a + 8 := hu848.m (by omega) e826
  have e871 : M845 a 9 = a + 9 := hu848.m (by omega) e827
  have e872 : M845 a 10 = a + 10 := hu848.m (by omega) e828
  have e873 : M845 a 11 = a + 12 := hu848.m (by omega) e829
  have e874 : M845 a 12 = a + 14 := hu848.m (by omega) e830
  have e875 : M845 a 13 = a + 16 := hu848.m (by omega) e831
  have rw876 : M845 (a + 6) = (fun _ => 0) := hu848.r (by omega) rw832
  have rw877 : M845 (a + 7) = (fun _ => 0) := hu848.r (by omega) rw833
  have rw878 : M845 (a + 8) = (fun _ => 0) := hu848.r (by omega) rw834
  have rw879 : M845 (a + 9) = (fun _ => 0) := hu848.r (by omega) rw835
  have pd880 : pez sh844 M845 (a + 1) := pd836.mv (hu848.as (by omega))
  have pd881 : tv sh844 M845 (a + 10) 60 [] := pd837.mv (hu848.as (by omega))
  have pd882 : tv sh844 M845 (a + 12) 60 [] := pd838.mv (hu848.as (by omega))
  have pd883 : tv sh844 M845 (a + 14) 60 [] := pd839.mv (hu848.as (by omega))
  have pd884 : vv sh844 M845 (a + 16) 0 0 [] := pd840.mv (hu848.as (by omega))
  have up885 : up a sh M sh844 M845 := up841.tr hu848 (by omega)
  clear e806 e807 e808 e809 e810 e811 e812 e813 e814 e815 e816 e817 e818 e819 e820 e821 e822 e823 e824 e825 e826 e827 e828 e829 e830 e831 e842 pd836 pd837 pd838 pd839 pd840 rw832 rw833 rw834 rw835 rw843
  have e886 : sh844 (a + 19) = some (.inl (5, ts_Value)) := pd849.1
  clear hu848 e847
  refine go_putF (x := (a + 19)) (v := vr (a + 19)) X f_Machine_73 rfl e850 rfl d_Machine_init_133 (s_vref rfl (by omega)) rfl rfl f_Machine_73w ?_
  generalize hM888 : m_s M845 a 14 (a + 19) = M887
  have e889 : M887 a 15 = (-1) := by rw [← hM888]; exact (m_s_n (fun q => absurd q.2 (by decide))).trans e860
  have e890 : M887 a 16 = 0 := by rw [← hM888]; exact (m_s_n (fun q => absurd q.2 (by decide))).trans e861
  have e891 : M887 a 0 = s := by rw [← hM888]; exact (m_s_n (fun q => absurd q.2 (by decide))).trans e862
  have e892 : M887 a 1 = c := by rw [← hM888]; exact (m_s_n (fun q => absurd q.2 (by decide))).trans e863
  have e893 : M887 a 2 = k := by rw [← hM888]; exact (m_s_n (fun q => absurd q.2 (by decide))).trans e864
  have e894 : M887 a 3 = g_ := by rw [← hM888]; exact (m_s_n (fun q => absurd q.2 (by decide))).trans e865
  have e895 : M887 a 4 = w := by rw [← hM888]; exact (m_s_n (fun q => absurd q.2 (by decide))).trans e866
  have e896 : M887 a 5 = a + 1 := by rw [← hM888]; exact (m_s_n (fun q => absurd q.2 (by decide))).trans e867
  have e897 : M887 a 6 = a + 6 := by rw [← hM888]; exact (m_s_n (fun q => absurd q.2 (by decide))).trans e868
  have e898 : M887 a 7 = a + 7 := by rw [← hM888]; exact (m_s_n (fun q => absurd q.2 (by decide))).trans e869
  have e899 : M887 a 8 = a + 8 := by rw [← hM888]; exact (m_s_n (fun q => absurd q.2 (by decide))).trans e870
  have e900 : M887 a 9 = a + 9 := by rw [← hM888]; exact (m_s_n (fun q => absurd q.2 (by decide))).trans e871
  have e901 : M887 a 10 = a + 10 := by rw [← hM888]; exact (m_s_n (fun q => absurd q.2 (by decide))).trans e872
  have e902 : M887 a 11 = a + 12 := by rw [← hM888]; exact (m_s_n (fun q => absurd q.2 (by decide))).trans e873
  have e903 : M887 a 12 = a + 14 := by rw [← hM888]; exact (m_s_n (fun q => absurd q.2 (by decide))).trans e874
  have e904 : M887 a 13 = a + 16 := by rw [← hM888]; exact (m_s_n (fun q => absurd q.2 (by decide))).trans e875
  have rw905 : M887 (a + 6) = (fun _ => 0) := by rw [← hM888]; exact (m_s_a (of_ne0 (by decide))).trans rw876
  have rw906 : M887 (a + 7) = (fun _ => 0) := by rw [← hM888]; exact (m_s_a (of_ne0 (by decide))).trans rw877
  have rw907 : M887 (a + 8) = (fun _ => 0) := by rw [← hM888]; exact (m_s_a (of_ne0 (by decide))).trans rw878
  have rw908 : M887 (a + 9) = (fun _ => 0) := by rw [← hM888]; exact (m_s_a (of_ne0 (by decide))).trans rw879
  have pd909 : pez sh844 M887 (a + 1) := by rw [← hM888]; exact pd880.mv (as_set (by omega))
  have pd910 : tv sh844 M887 (a + 10) 60 [] := by rw [← hM888]; exact pd881.mv (as_set (by omega))
  have pd911 : tv sh844 M887 (a + 12) 60 [] := by rw [← hM888]; exact pd882.mv (as_set (by omega))
  have pd912 : tv sh844 M887 (a + 14) 60 [] := by rw [← hM888]; exact pd883.mv (as_set (by omega))
  have pd913 : vv sh844 M887 (a + 16) 0 0 [] := by rw [← hM888]; exact pd884.mv (as_set (by omega))
  have pd914 : vv sh844 M887 (a + 19) 0 0 [] := by rw [← hM888]; exact pd849.mv (as_set (by omega))
  have e915 : M887 a 14 = a + 19 := by rw [← hM888, m_s_s]
  have up916 : up a sh M sh844 M887 := by rw [← hM888]; exact up885.set (by omega)
  clear e859 e860 e861 e862 e863 e864 e865 e866 e867 e868 e869 e870 e871 e872 e873 e874 e875 pd849 pd880 pd881 pd882 pd883 pd884 rw876 rw877 rw878 rw879 up885 hM888
  refine go_vret X d_Machine_init_136 rfl (by omega) (by omega) ?_
  exact ⟨rfl, rfl, up916, ⟨⟨e850, ⟨e851, e852, e853, e854⟩, ⟨e891, e892, e893, e894, e895⟩, ⟨e896, e897, e898, e899, e900, e901, e902, e903, e904, e915⟩, pd909.1, ⟨rw905, rw906, rw907, rw908⟩, h0⟩, ⟨pd910, pd911, pd912, pd913, pd914⟩⟩, pd909, e889⟩
set_option maxHeartbeats 4000000 in
set_option maxRecDepth 100000 in
theorem c_CiteForge_initZ (l : Launch) (D : va_G) {sh : s_S} {M : s_M} {sz o : Int} (hs : sh o = some (.inl (10, ts_CiteForge))) (hM : M o = (fun j => if j = 0 ∨ j = 1 ∨ j = 2 ∨ j = 3 ∨ j = 4 ∨ j = 5 ∨ j = 6 then -1 else 0)) (h0 : 0 ≤ o) (hz : sz = o + 1) : Sp l D y_CiteForge_init prog_1_method_1_code 1 none 6 246 6867 [vr o] sh M sz (fun v sh' M' sz' => v = none ∧ sz' = o + 247 ∧ up o sh M sh' M' ∧ cfz sh' M' o) := by
  subst hz
  have hup := up.rf (a := o) (sh := sh) (M := M)
  have d0 : M o 0 < 0 := by rw [hM]; decide
  have d1 : M o 1 < 0 := by rw [hM]; decide
  have d2 : M o 2 < 0 := by rw [hM]; decide
  have d3 : M o 3 < 0 := by rw [hM]; decide
  have d4 : M o 4 < 0 := by rw [hM]; decide
  have d5 : M o 5 < 0 := by rw [hM]; decide
  have d6 : M o 6 < 0 := by rw [hM]; decide
  refine Sp.ofGo (own := "CiteForge") (nm := "<init>") (by decide) rfl rfl (Nat.le_of_ble_eq_true rfl) (lv := [(0, vr o)]) rfl ?_
  intro g X
  refine go_aload_n X d_CiteForge_init_0 rfl rfl ?_
  refine go_objInit X w_oi_CiteForge w_oi2 w_oi3 (by omega) (Nat.le_of_ble_eq_true rfl) d_CiteForge_init_1 ?_
  refine go_aload_n X d_CiteForge_init_4 rfl rfl ?_
  refine go_bipush (v := 10) X d_CiteForge_init_5 (by decide) ?_
  refine go_newa (N := 10) (ty := .int) X w_ac_int rfl (by simp) (by omega) (by omega) (by omega) d_CiteForge_init_7 ?_
  generalize hs2 : s_up sh (o + 1) (.inr (.int, 10)) = sh1
  generalize hM4 : m_new M (o + 1) (fun _ => 0) = M3
  have hu5 : up (o + 1) sh M sh1 M3 := by rw [← hs2, ← hM4]; exact up.new
  have e6 : sh1 o = some (.inl (10, ts_CiteForge)) := hu5.s (by omega) hs
  have e7 : M3 o 0 < 0 := hu5.n (by omega) d0
  have e8 : M3 o 1 < 0 := hu5.n (by omega) d1
  have e9 : M3 o 2 < 0 := hu5.n (by omega) d2
  have e10 : M3 o 3 < 0 := hu5.n (by omega) d3
  have e11 : M3 o 4 < 0 := hu5.n (by omega) d4
  have e12 : M3 o 5 < 0 := hu5.n (by omega) d5
  have e13 : M3 o 6 < 0 := hu5.n (by omega) d6
  have up14 : up o sh M sh1 M3 := hup.tr hu5 (by omega)
  have e15 : sh1 (o + 1) = some (.inr (.int, 10)) := by rw [← hs2, s_up_s]
  have rw16 : M3 (o + 1) = (fun _ => 0) := by rw [← hM4, m_new_s]
  clear hs2 hM4 hu5
  refine go_kn (k' := 1) (n' := 10) (sz' := o + 2) (by omega) (by omega) (by omega) ?_
  refine go_putF (x := (o + 1)) (v := vr (o + 1)) X f_CiteForge_9 rfl e6 rfl d_CiteForge_init_9 (s_varr rfl (by omega)) rfl rfl f_CiteForge_9w ?_
  generalize hM18 : m_s M3 o 0 (o + 1) = M17
  have e19 : M17 o 1 < 0 := by rw [← hM18, m_s_n (fun q => absurd q.2 (by decide))]; exact e8
  have e20 : M17 o 2 < 0 := by rw [← hM18, m_s_n (fun q => absurd q.2 (by decide))]; exact e9
  have e21 : M17 o 3 < 0 := by rw [← hM18, m_s_n (fun q => absurd q.2 (by decide))]; exact e10
  have e22 : M17 o 4 < 0 := by rw [← hM18, m_s_n (fun q => absurd q.2 (by decide))]; exact e11
  have e23 : M17 o 5 < 0 := by rw [← hM18, m_s_n (fun q => absurd q.2 (by decide))]; exact e12
  have e24 : M17 o 6 < 0 := by rw [← hM18, m_s_n (fun q => absurd q.2 (by decide))]; exact e13
  have rw25 : M17 (o + 1) = (fun _ => 0) := by rw [← hM18]; exact (m_s_a (of_ne0 (by decide))).trans rw16
  have e26 : M17 o 0 = o + 1 := by rw [← hM18, m_s_s]
  have up27 : up o sh M sh1 M17 := by rw [← hM18]; exact up14.set (by omega)
  clear e10 e11 e12 e13 e7 e8 e9 rw16 up14 hM18
  refine go_aload_n X d_CiteForge_init_12 rfl rfl ?_
  refine go_new (ts := ts_Shelf) (f := (fun j => if j = 0 ∨ j = 1 then -1 else 0)) X cls2_ok w_cl_CiteForge_13 w_in_2 w_ini_2 (by decide) (by decide) (by omega) (by omega) d_CiteForge_init_13 ?_
  generalize hs29 : s_up sh1 (o + 2) (.inl (2, ts_Shelf)) = sh28
  generalize hM31 : m_new M17 (o + 2) (fun j => if j = 0 ∨ j = 1 then -1 else 0) = M30
  have hu32 : up (o + 2) sh1 M17 sh28 M30 := by rw [← hs29, ← hM31]; exact up.new
  have e33 : sh28 o = some (.inl (10, ts_CiteForge)) := hu32.s (by omega) e6
  have e34 : sh28 (o + 1) = some (.inr (.int, 10)) := hu32.s (by omega) e15
  have e35 : M30 o 1 < 0 := hu32.n (by omega) e19
  have e36 : M30 o 2 < 0 := hu32.n (by omega) e20
  have e37 : M30 o 3 < 0 := hu32.n (by omega) e21
  have e38 : M30 o 4 < 0 := hu32.n (by omega) e22
  have e39 : M30 o 5 < 0 := hu32.n (by omega) e23
  have e40 : M30 o 6 < 0 := hu32.n (by omega) e24
  have e41 : M30 o 0 = o + 1 := hu32.m (by omega) e26
  have rw42 : M30 (o + 1) = (fun _ => 0) := hu32.r (by omega) rw25
  have up43 : up o sh M sh28 M30 := up27.tr hu32 (by omega)
  clear e15 e19 e20 e21 e22 e23 e24 e26 e6 rw25
  have e44 : sh28 (o + 2) = some (.inl (2, ts_Shelf)) := by rw [← hs29, s_up_s]
  have rw45 : M30 (o + 2) = (fun j => if j = 0 ∨ j = 1 then -1 else 0) := by rw [← hM31, m_new_s]
  clear hs29 hM31 hu32
  refine go_kn (k' := 2) (n' := 13) (sz' := o + 3) (by omega) (by omega) (by omega) ?_
  refine go_dup X d_CiteForge_init_16 rfl ?_
  refine go_aload_n X d_CiteForge_init_17 rfl rfl ?_
  refine go_get (v := vr (o + 1)) X f_CiteForge_9 e33 rfl d_CiteForge_init_18 (s_varr e41 (by omega)) ?_
  refine go_cI (st2 := []) (r := [vr (o + 2), vr o]) X k_CiteForge_15 (c_Shelf_init l D e44 rw45 (by omega) (by omega) e34 (by omega)) rfl rfl (by omega) (Nat.le_of_ble_eq_true rfl) d_CiteForge_init_21 (by omega) (by omega) (fun v sh46 M47 sz' hp => ?_)
  obtain ⟨e48, e49, hu50, pd51⟩ := hp
  subst e48
  refine go_kn (k' := 156) (n' := 4099) (sz' := o + 157) (by omega) (by omega) (by omega) ?_
  show Go g (156) (4099) sh46 M47 (o + 157) 24 [(0, vr o)] [vr (o + 2), vr o]
  have e52 : sh46 o = some (.inl (10, ts_CiteForge)) := hu50.s (by omega) e33
  have e53 : sh46 (o + 1) = some (.inr (.int, 10)) := hu50.s (by omega) e34
  have e54 : M47 o 1 < 0 := hu50.n (by omega) e35
  have e55 : M47 o 2 < 0 := hu50.n (by omega) e36
  have e56 : M47 o 3 < 0 := hu50.n (by omega) e37
  have e57 : M47 o 4 < 0 := hu50.n (by omega) e38
  have e58 : M47 o 5 < 0 := hu50.n (by omega) e39
  have e59 : M47 o 6 < 0 := hu50.n (by omega) e40
  have e60 : M47 o 0 = o + 1 := hu50.m (by omega) e41
  have rw61 : M47 (o + 1) = (fun _ => 0) := hu50.r (by omega) rw42
  have up62 : up o sh M sh46 M47 := up43.tr hu50 (by omega)
  clear e33 e34 e35 e36 e37 e38 e39 e40 e41 e44 rw42 rw45
  clear hu50 e49
  refine go_putF (x := (o + 2)) (v := vr (o + 2)) X f_CiteForge_18 rfl e52 rfl d_CiteForge_init_24 (s_vref rfl (by omega)) rfl rfl f_CiteForge_18w ?_
  generalize hM64 : m_s M47 o 1 (o + 2) = M63
  have e65 : M63 o 2 < 0 := by rw [← hM64, m_s_n (fun q => absurd q.2 (by decide))]; exact e55
  have e66 : M63 o 3 < 0 := by rw [← hM64, m_s_n (fun q => absurd q.2 (by decide))]; exact e56
  have e67 : M63 o 4 < 0 := by rw [← hM64, m_s_n (fun q => absurd q.2 (by decide))]; exact e57
  have e68 : M63 o 5 < 0 := by rw [← hM64, m_s_n (fun q => absurd q.2 (by decide))]; exact e58
  have e69 : M63 o 6 < 0 := by rw [← hM64, m_s_n (fun q => absurd q.2 (by decide))]; exact e59
  have e70 : M63 o 0 = o + 1 := by rw [← hM64]; exact (m_s_n (fun q => absurd q.2 (by decide))).trans e60
  have rw71 : M63 (o + 1) = (fun _ => 0) := by rw [← hM64]; exact (m_s_a (of_ne0 (by decide))).trans rw61
  have pd72 : shv sh46 M63 (o + 2) (o + 1) 0 (fun _ => sen0) := by rw [← hM64]; exact pd51.mv (as_set (by omega)) rfl
  have e73 : M63 o 1 = o + 2 := by rw [← hM64, m_s_s]
  have up74 : up o sh M sh46 M63 := by rw [← hM64]; exact up62.set (by omega)
  clear e54 e55 e56 e57 e58 e59 e60 pd51 rw61 up62 hM64
  refine go_aload_n X d_CiteForge_init_27 rfl rfl ?_
  refine go_new (ts := ts_Reader) (f := (fun j => if j = 0 ∨ j = 1 ∨ j = 2 ∨ j = 3 ∨ j = 4 ∨ j = 8 ∨ j = 11 then -1 else 0)) X cls3_ok w_cl_CiteForge_22 w_in_3 w_ini_3 (by decide) (by decide) (by omega) (by omega) d_CiteForge_init_28 ?_
  generalize hs76 : s_up sh46 (o + 157) (.inl (3, ts_Reader)) = sh75
  generalize hM78 : m_new M63 (o + 157) (fun j => if j = 0 ∨ j = 1 ∨ j = 2 ∨ j = 3 ∨ j = 4 ∨ j = 8 ∨ j = 11 then -1 else 0) = M77
  have hu79 : up (o + 157) sh46 M63 sh75 M77 := by rw [← hs76, ← hM78]; exact up.new
  have e80 : sh75 o = some (.inl (10, ts_CiteForge)) := hu79.s (by omega) e52
  have e81 : sh75 (o + 1) = some (.inr (.int, 10)) := hu79.s (by omega) e53
  have e82 : M77 o 2 < 0 := hu79.n (by omega) e65
  have e83 : M77 o 3 < 0 := hu79.n (by omega) e66
  have e84 : M77 o 4 < 0 := hu79.n (by omega) e67
  have e85 : M77 o 5 < 0 := hu79.n (by omega) e68
  have e86 : M77 o 6 < 0 := hu79.n (by omega) e69
  have e87 : M77 o 0 = o + 1 := hu79.m (by omega) e70
  have e88 : M77 o 1 = o + 2 := hu79.m (by omega) e73
  have rw89 : M77 (o + 1) = (fun _ => 0) := hu79.r (by omega) rw71
  have pd90 : shv sh75 M77 (o + 2) (o + 1) 0 (fun _ => sen0) := pd72.mv (hu79.as (by omega)) ((hu79 (o + 1) (by omega)).1)
  have up91 : up o sh M sh75 M77 := up74.tr hu79 (by omega)
  clear e52 e53 e65 e66 e67 e68 e69 e70 e73 pd72 rw71
  have e92 : sh75 (o + 157) = some (.inl (3, ts_Reader)) := by rw [← hs76, s_up_s]
  have rw93 : M77 (o + 157) = (fun j => if j = 0 ∨ j = 1 ∨ j = 2 ∨ j = 3 ∨ j = 4 ∨ j = 8 ∨ j = 11 then -1 else 0) := by rw [← hM78, m_new_s]
  clear hs76 hM78 hu79
  refine go_kn (k' := 157) (n' := 4113) (sz' := o + 158) (by omega) (by omega) (by omega) ?_
  refine go_dup X d_CiteForge_init_31 rfl ?_
  refine go_aload_n X d_CiteForge_init_32 rfl rfl ?_
  refine go_get (v := vr (o + 2)) X f_CiteForge_18 e80 rfl d_CiteForge_init_33 (s_vref e88 (by omega)) ?_
  refine go_aload_n X d_CiteForge_init_36 rfl rfl ?_
  refine go_get (v := vr (o + 1)) X f_CiteForge_9 e80 rfl d_CiteForge_init_37 (s_varr e87 (by omega)) ?_
  refine go_cI (st2 := []) (r := [vr (o + 157), vr o]) X k_CiteForge_24 (c_Reader_init l D e92 rw93 (by omega) (by omega) e81 (by omega) (by omega)) rfl rfl (by omega) (Nat.le_of_ble_eq_true rfl) d_CiteForge_init_40 (by omega) (by omega) (fun v sh94 M95 sz' hp => ?_)
  obtain ⟨e96, e97, hu98, pd99⟩ := hp
  subst e96
  refine go_kn (k' := 179) (n' := 5009) (sz' := o + 180) (by omega) (by omega) (by omega) ?_
  show Go g (179) (5009) sh94 M95 (o + 180) 43 [(0, vr o)] [vr (o + 157), vr o]
  have e100 : sh94 o = some (.inl (10, ts_CiteForge)) := hu98.s (by omega) e80
  have e101 : sh94 (o + 1) = some (.inr (.int, 10)) := hu98.s (by omega) e81
  have e102 : M95 o 2 < 0 := hu98.n (by omega) e82
  have e103 : M95 o 3 < 0 := hu98.n (by omega) e83
  have e104 : M95 o 4 < 0 := hu98.n (by omega) e84
  have e105 : M95 o 5 < 0 := hu98.n (by omega) e85
  have e106 : M95 o 6 < 0 := hu98.n (by omega) e86
  have e107 : M95 o 0 = o + 1 := hu98.m (by omega) e87
  have e108 : M95 o 1 = o + 2 := hu98.m (by omega) e88
  have rw109 : M95 (o + 1) = (fun _ => 0) := hu98.r (by omega) rw89
  have pd110 : shv sh94 M95 (o + 2) (o + 1) 0 (fun _ => sen0) := pd90.mv (hu98.as (by omega)) ((hu98 (o + 1) (by omega)).1)
  have up111 : up o sh M sh94 M95 := up91.tr hu98 (by omega)
  clear e80 e81 e82 e83 e84 e85 e86 e87 e88 e92 pd90 rw89 rw93
  clear hu98 e97
  refine go_putF (x := (o + 157)) (v := vr (o + 157)) X f_CiteForge_27 rfl e100 rfl d_CiteForge_init_43 (s_vref rfl (by omega)) rfl rfl f_CiteForge_27w ?_
  generalize hM113 : m_s M95 o 2 (o + 157) = M112
  have e114 : M112 o 3 < 0 := by rw [← hM113, m_s_n (fun q => absurd q.2 (by decide))]; exact e103
  have e115 : M112 o 4 < 0 := by rw [← hM113, m_s_n (fun q => absurd q.2 (by decide))]; exact e104
  have e116 : M112 o 5 < 0 := by rw [← hM113, m_s_n (fun q => absurd q.2 (by decide))]; exact e105
  have e117 : M112 o 6 < 0 := by rw [← hM113, m_s_n (fun q => absurd q.2 (by decide))]; exact e106
  have e118 : M112 o 0 = o + 1 := by rw [← hM113]; exact (m_s_n (fun q => absurd q.2 (by decide))).trans e107
  have e119 : M112 o 1 = o + 2 := by rw [← hM113]; exact (m_s_n (fun q => absurd q.2 (by decide))).trans e108
  have rw120 : M112 (o + 1) = (fun _ => 0) := by rw [← hM113]; exact (m_s_a (of_ne0 (by decide))).trans rw109
  have pd121 : shv sh94 M112 (o + 2) (o + 1) 0 (fun _ => sen0) := by rw [← hM113]; exact pd110.mv (as_set (by omega)) rfl
  have pd122 : rdv sh94 M112 (o + 157) (o + 2) (o + 1) 0 [] (fun _ => 0) (fun _ => []) [] := by rw [← hM113]; exact pd99.mv (as_set (by omega)) rfl
  have e123 : M112 o 2 = o + 157 := by rw [← hM113, m_s_s]
  have up124 : up o sh M sh94 M112 := by rw [← hM113]; exact up111.set (by omega)
  clear e102 e103 e104 e105 e106 e107 e108 pd110 pd99 rw109 up111 hM113
  refine go_aload_n X d_CiteForge_init_46 rfl rfl ?_
  refine go_new (ts := ts_Citations) (f := (fun j => if j = 0 ∨ j = 1 ∨ j = 2 ∨ j = 4 then -1 else 0)) X cls4_ok w_cl_CiteForge_31 w_in_4 w_ini_4 (by decide) (by decide) (by omega) (by omega) d_CiteForge_init_47 ?_
  generalize hs126 : s_up sh94 (o + 180) (.inl (4, ts_Citations)) = sh125
  generalize hM128 : m_new M112 (o + 180) (fun j => if j = 0 ∨ j = 1 ∨ j = 2 ∨ j = 4 then -1 else 0) = M127
  have hu129 : up (o + 180) sh94 M112 sh125 M127 := by rw [← hs126, ← hM128]; exact up.new
  have e130 : sh125 o = some (.inl (10, ts_CiteForge)) := hu129.s (by omega) e100
  have e131 : sh125 (o + 1) = some (.inr (.int, 10)) := hu129.s (by omega) e101
  have e132 : M127 o 3 < 0 := hu129.n (by omega) e114
  have e133 : M127 o 4 < 0 := hu129.n (by omega) e115
  have e134 : M127 o 5 < 0 := hu129.n (by omega) e116
  have e135 : M127 o 6 < 0 := hu129.n (by omega) e117
  have e136 : M127 o 0 = o + 1 := hu129.m (by omega) e118
  have e137 : M127 o 1 = o + 2 := hu129.m (by omega) e119
  have e138 : M127 o 2 = o + 157 := hu129.m (by omega) e123
  have rw139 : M127 (o + 1) = (fun _ => 0) := hu129.r (by omega) rw120
  have pd140 : shv sh125 M127 (o + 2) (o + 1) 0 (fun _ => sen0) := pd121.mv (hu129.as (by omega)) ((hu129 (o + 1) (by omega)).1)
  have pd141 : rdv sh125 M127 (o + 157) (o + 2) (o + 1) 0 [] (fun _ => 0) (fun _ => []) [] := pd122.mv (hu129.as (by omega)) ((hu129 (o + 1) (by omega)).1)
  have up142 : up o sh M sh125 M127 := up124.tr hu129 (by omega)
  clear e100 e101 e114 e115 e116 e117 e118 e119 e123 pd121 pd122 rw120
  have e143 : sh125 (o + 180) = some (.inl (4, ts_Citations)) := by rw [← hs126, s_up_s]
  have rw144 : M127 (o + 180) = (fun j => if j = 0 ∨ j = 1 ∨ j = 2 ∨ j = 4 then -1 else 0) := by rw [← hM128, m_new_s]
  clear hs126 hM128 hu129
  refine go_kn (k' := 180) (n' := 5015) (sz' := o + 181) (by omega) (by omega) (by omega) ?_
  refine go_dup X d_CiteForge_init_50 rfl ?_
  refine go_aload_n X d_CiteForge_init_51 rfl rfl ?_
  refine go_get (v := vr (o + 2)) X f_CiteForge_18 e130 rfl d_CiteForge_init_52 (s_vref e137 (by omega)) ?_
  refine go_aload_n X d_CiteForge_init_55 rfl rfl ?_
  refine go_get (v := vr (o + 1)) X f_CiteForge_9 e130 rfl d_CiteForge_init_56 (s_varr e136 (by omega)) ?_
  refine go_cI (st2 := []) (r := [vr (o + 180), vr o]) X k_CiteForge_33 (c_Citations_init l D e143 rw144 (by omega) (by omega) e131 (by omega) (by omega)) rfl rfl (by omega) (Nat.le_of_ble_eq_true rfl) d_CiteForge_init_59 (by omega) (by omega) (fun v sh145 M146 sz' hp => ?_)
  obtain ⟨e147, e148, hu149, pd150⟩ := hp
  subst e147
  refine go_kn (k' := 182) (n' := 5033) (sz' := o + 183) (by omega) (by omega) (by omega) ?_
  show Go g (182) (5033) sh145 M146 (o + 183) 62 [(0, vr o)] [vr (o + 180), vr o]
  have e151 : sh145 o = some (.inl (10, ts_CiteForge)) := hu149.s (by omega) e130
  have e152 : sh145 (o + 1) = some (.inr (.int, 10)) := hu149.s (by omega) e131
  have e153 : M146 o 3 < 0 := hu149.n (by omega) e132
  have e154 : M146 o 4 < 0 := hu149.n (by omega) e133
  have e155 : M146 o 5 < 0 := hu149.n (by omega) e134
  have e156 : M146 o 6 < 0 := hu149.n (by omega) e135
  have e157 : M146 o 0 = o + 1 := hu149.m (by omega) e136
  have e158 : M146 o 1 = o + 2 := hu149.m (by omega) e137
  have e159 : M146 o 2 = o + 157 := hu149.m (by omega) e138
  have rw160 : M146 (o + 1) = (fun _ => 0) := hu149.r (by omega) rw139
  have pd161 : shv sh145 M146 (o + 2) (o + 1) 0 (fun _ => sen0) := pd140.mv (hu149.as (by omega)) ((hu149 (o + 1) (by omega)).1)
  have pd162 : rdv sh145 M146 (o + 157) (o + 2) (o + 1) 0 [] (fun _ => 0) (fun _ => []) [] := pd141.mv (hu149.as (by omega)) ((hu149 (o + 1) (by omega)).1)
  have up163 : up o sh M sh145 M146 := up142.tr hu149 (by omega)
  clear e130 e131 e132 e133 e134 e135 e136 e137 e138 e143 pd140 pd141 rw139 rw144
  clear hu149 e148
  refine go_putF (x := (o + 180)) (v := vr (o + 180)) X f_CiteForge_34 rfl e151 rfl d_CiteForge_init_62 (s_vref rfl (by omega)) rfl rfl f_CiteForge_34w ?_
  generalize hM165 : m_s M146 o 3 (o + 180) = M164
  have e166 : M164 o 4 < 0 := by rw [← hM165, m_s_n (fun q => absurd q.2 (by decide))]; exact e154
  have e167 : M164 o 5 < 0 := by rw [← hM165, m_s_n (fun q => absurd q.2 (by decide))]; exact e155
  have e168 : M164 o 6 < 0 := by rw [← hM165, m_s_n (fun q => absurd q.2 (by decide))]; exact e156
  have e169 : M164 o 0 = o + 1 := by rw [← hM165]; exact (m_s_n (fun q => absurd q.2 (by decide))).trans e157
  have e170 : M164 o 1 = o + 2 := by rw [← hM165]; exact (m_s_n (fun q => absurd q.2 (by decide))).trans e158
  have e171 : M164 o 2 = o + 157 := by rw [← hM165]; exact (m_s_n (fun q => absurd q.2 (by decide))).trans e159
  have rw172 : M164 (o + 1) = (fun _ => 0) := by rw [← hM165]; exact (m_s_a (of_ne0 (by decide))).trans rw160
  have pd173 : shv sh145 M164 (o + 2) (o + 1) 0 (fun _ => sen0) := by rw [← hM165]; exact pd161.mv (as_set (by omega)) rfl
  have pd174 : rdv sh145 M164 (o + 157) (o + 2) (o + 1) 0 [] (fun _ => 0) (fun _ => []) [] := by rw [← hM165]; exact pd162.mv (as_set (by omega)) rfl
  have pd175 : civ sh145 M164 (o + 180) (o + 2) (o + 1) 0 0 (fun _ => 0) (fun _ => 0) := by rw [← hM165]; exact pd150.mv (as_set (by omega)) rfl
  have e176 : M164 o 3 = o + 180 := by rw [← hM165, m_s_s]
  have up177 : up o sh M sh145 M164 := by rw [← hM165]; exact up163.set (by omega)
  clear e153 e154 e155 e156 e157 e158 e159 pd150 pd161 pd162 rw160 up163 hM165
  refine go_aload_n X d_CiteForge_init_65 rfl rfl ?_
  refine go_new (ts := ts_Stack) (f := (fun j => if j = 0 ∨ j = 1 then -1 else 0)) X cls6_ok w_cl_CiteForge_38 w_in_6 w_ini_6 (by decide) (by decide) (by omega) (by omega) d_CiteForge_init_66 ?_
  generalize hs179 : s_up sh145 (o + 183) (.inl (6, ts_Stack)) = sh178
  generalize hM181 : m_new M164 (o + 183) (fun j => if j = 0 ∨ j = 1 then -1 else 0) = M180
  have hu182 : up (o + 183) sh145 M164 sh178 M180 := by rw [← hs179, ← hM181]; exact up.new
  have e183 : sh178 o = some (.inl (10, ts_CiteForge)) := hu182.s (by omega) e151
  have e184 : sh178 (o + 1) = some (.inr (.int, 10)) := hu182.s (by omega) e152
  have e185 : M180 o 4 < 0 := hu182.n (by omega) e166
  have e186 : M180 o 5 < 0 := hu182.n (by omega) e167
  have e187 : M180 o 6 < 0 := hu182.n (by omega) e168
  have e188 : M180 o 0 = o + 1 := hu182.m (by omega) e169
  have e189 : M180 o 1 = o + 2 := hu182.m (by omega) e170
  have e190 : M180 o 2 = o + 157 := hu182.m (by omega) e171
  have e191 : M180 o 3 = o + 180 := hu182.m (by omega) e176
  have rw192 : M180 (o + 1) = (fun _ => 0) := hu182.r (by omega) rw172
  have pd193 : shv sh178 M180 (o + 2) (o + 1) 0 (fun _ => sen0) := pd173.mv (hu182.as (by omega)) ((hu182 (o + 1) (by omega)).1)
  have pd194 : rdv sh178 M180 (o + 157) (o + 2) (o + 1) 0 [] (fun _ => 0) (fun _ => []) [] := pd174.mv (hu182.as (by omega)) ((hu182 (o + 1) (by omega)).1)
  have pd195 : civ sh178 M180 (o + 180) (o + 2) (o + 1) 0 0 (fun _ => 0) (fun _ => 0) := pd175.mv (hu182.as (by omega)) ((hu182 (o + 1) (by omega)).1)
  have up196 : up o sh M sh178 M180 := up177.tr hu182 (by omega)
  clear e151 e152 e166 e167 e168 e169 e170 e171 e176 pd173 pd174 pd175 rw172
  have e197 : sh178 (o + 183) = some (.inl (6, ts_Stack)) := by rw [← hs179, s_up_s]
  have rw198 : M180 (o + 183) = (fun j => if j = 0 ∨ j = 1 then -1 else 0) := by rw [← hM181, m_new_s]
  clear hs179 hM181 hu182
  refine go_kn (k' := 183) (n' := 5036) (sz' := o + 184) (by omega) (by omega) (by omega) ?_
  refine go_dup X d_CiteForge_init_69 rfl ?_
  refine go_aload_n X d_CiteForge_init_70 rfl rfl ?_
  refine go_get (v := vr (o + 1)) X f_CiteForge_9 e183 rfl d_CiteForge_init_71 (s_varr e188 (by omega)) ?_
  refine go_cI (st2 := []) (r := [vr (o + 183), vr o]) X k_CiteForge_40 (c_Stack_init l D e197 rw198 (by omega) (by omega) e184 (by omega)) rfl rfl (by omega) (Nat.le_of_ble_eq_true rfl) d_CiteForge_init_74 (by omega) (by omega) (fun v sh199 M200 sz' hp => ?_)
  obtain ⟨e201, e202, hu203, pd204⟩ := hp
  subst e201
  refine go_kn (k' := 220) (n' := 5828) (sz' := o + 221) (by omega) (by omega) (by omega) ?_
  show Go g (220) (5828) sh199 M200 (o + 221) 77 [(0, vr o)] [vr (o + 183), vr o]
  have e205 : sh199 o = some (.inl (10, ts_CiteForge)) := hu203.s (by omega) e183
  have e206 : sh199 (o + 1) = some (.inr (.int, 10)) := hu203.s (by omega) e184
  have e207 : M200 o 4 < 0 := hu203.n (by omega) e185
  have e208 : M200 o 5 < 0 := hu203.n (by omega) e186
  have e209 : M200 o 6 < 0 := hu203.n (by omega) e187
  have e210 : M200 o 0 = o + 1 := hu203.m (by omega) e188
  have e211 : M200 o 1 = o + 2 := hu203.m (by omega) e189
  have e212 : M200 o 2 = o + 157 := hu203.m (by omega) e190
  have e213 : M200 o 3 = o + 180 := hu203.m (by omega) e191
  have rw214 : M200 (o + 1) = (fun _ => 0) := hu203.r (by omega) rw192
  have pd215 : shv sh199 M200 (o + 2) (o + 1) 0 (fun _ => sen0) := pd193.mv (hu203.as (by omega)) ((hu203 (o + 1) (by omega)).1)
  have pd216 : rdv sh199 M200 (o + 157) (o + 2) (o + 1) 0 [] (fun _ => 0) (fun _ => []) [] := pd194.mv (hu203.as (by omega)) ((hu203 (o + 1) (by omega)).1)
  have pd217 : civ sh199 M200 (o + 180) (o + 2) (o + 1) 0 0 (fun _ => 0) (fun _ => 0) := pd195.mv (hu203.as (by omega)) ((hu203 (o + 1) (by omega)).1)
  have up218 : up o sh M sh199 M200 := up196.tr hu203 (by omega)
  clear e183 e184 e185 e186 e187 e188 e189 e190 e191 e197 pd193 pd194 pd195 rw192 rw198
  clear hu203 e202
  refine go_putF (x := (o + 183)) (v := vr (o + 183)) X f_CiteForge_41 rfl e205 rfl d_CiteForge_init_77 (s_vref rfl (by omega)) rfl rfl f_CiteForge_41w ?_
  generalize hM220 : m_s M200 o 4 (o + 183) = M219
  have e221 : M219 o 5 < 0 := by rw [← hM220, m_s_n (fun q => absurd q.2 (by decide))]; exact e208
  have e222 : M219 o 6 < 0 := by rw [← hM220, m_s_n (fun q => absurd q.2 (by decide))]; exact e209
  have e223 : M219 o 0 = o + 1 := by rw [← hM220]; exact (m_s_n (fun q => absurd q.2 (by decide))).trans e210
  have e224 : M219 o 1 = o + 2 := by rw [← hM220]; exact (m_s_n (fun q => absurd q.2 (by decide))).trans e211
  have e225 : M219 o 2 = o + 157 := by rw [← hM220]; exact (m_s_n (fun q => absurd q.2 (by decide))).trans e212
  have e226 : M219 o 3 = o + 180 := by rw [← hM220]; exact (m_s_n (fun q => absurd q.2 (by decide))).trans e213
  have rw227 : M219 (o + 1) = (fun _ => 0) := by rw [← hM220]; exact (m_s_a (of_ne0 (by decide))).trans rw214
  have pd228 : shv sh199 M219 (o + 2) (o + 1) 0 (fun _ => sen0) := by rw [← hM220]; exact pd215.mv (as_set (by omega)) rfl
  have pd229 : rdv sh199 M219 (o + 157) (o + 2) (o + 1) 0 [] (fun _ => 0) (fun _ => []) [] := by rw [← hM220]; exact pd216.mv (as_set (by omega)) rfl
  have pd230 : civ sh199 M219 (o + 180) (o + 2) (o + 1) 0 0 (fun _ => 0) (fun _ => 0) := by rw [← hM220]; exact pd217.mv (as_set (by omega)) rfl
  have pd231 : stv sh199 M219 (o + 183) (o + 1) 0 (fun _ => (0, 0, [])) := by rw [← hM220]; exact pd204.mv (as_set (by omega)) rfl
  have e232 : M219 o 4 = o + 183 := by rw [← hM220, m_s_s]
  have up233 : up o sh M sh199 M219 := by rw [← hM220]; exact up218.set (by omega)
  clear e207 e208 e209 e210 e211 e212 e213 pd204 pd215 pd216 pd217 rw214 up218 hM220
  refine go_aload_n X d_CiteForge_init_80 rfl rfl ?_
  refine go_new (ts := ts_Page) (f := (fun j => if j = 0 ∨ j = 1 then -1 else 0)) X cls8_ok w_cl_CiteForge_45 w_in_8 w_ini_8 (by decide) (by decide) (by omega) (by omega) d_CiteForge_init_81 ?_
  generalize hs235 : s_up sh199 (o + 221) (.inl (8, ts_Page)) = sh234
  generalize hM237 : m_new M219 (o + 221) (fun j => if j = 0 ∨ j = 1 then -1 else 0) = M236
  have hu238 : up (o + 221) sh199 M219 sh234 M236 := by rw [← hs235, ← hM237]; exact up.new
  have e239 : sh234 o = some (.inl (10, ts_CiteForge)) := hu238.s (by omega) e205
  have e240 : sh234 (o + 1) = some (.inr (.int, 10)) := hu238.s (by omega) e206
  have e241 : M236 o 5 < 0 := hu238.n (by omega) e221
  have e242 : M236 o 6 < 0 := hu238.n (by omega) e222
  have e243 : M236 o 0 = o + 1 := hu238.m (by omega) e223
  have e244 : M236 o 1 = o + 2 := hu238.m (by omega) e224
  have e245 : M236 o 2 = o + 157 := hu238.m (by omega) e225
  have e246 : M236 o 3 = o + 180 := hu238.m (by omega) e226
  have e247 : M236 o 4 = o + 183 := hu238.m (by omega) e232
  have rw248 : M236 (o + 1) = (fun _ => 0) := hu238.r (by omega) rw227
  have pd249 : shv sh234 M236 (o + 2) (o + 1) 0 (fun _ => sen0) := pd228.mv (hu238.as (by omega)) ((hu238 (o + 1) (by omega)).1)
  have pd250 : rdv sh234 M236 (o + 157) (o + 2) (o + 1) 0 [] (fun _ => 0) (fun _ => []) [] := pd229.mv (hu238.as (by omega)) ((hu238 (o + 1) (by omega)).1)
  have pd251 : civ sh234 M236 (o + 180) (o + 2) (o + 1) 0 0 (fun _ => 0) (fun _ => 0) := pd230.mv (hu238.as (by omega)) ((hu238 (o + 1) (by omega)).1)
  have pd252 : stv sh234 M236 (o + 183) (o + 1) 0 (fun _ => (0, 0, [])) := pd231.mv (hu238.as (by omega)) ((hu238 (o + 1) (by omega)).1)
  have up253 : up o sh M sh234 M236 := up233.tr hu238 (by omega)
  clear e205 e206 e221 e222 e223 e224 e225 e226 e232 pd228 pd229 pd230 pd231 rw227
  have e254 : sh234 (o + 221) = some (.inl (8, ts_Page)) := by rw [← hs235, s_up_s]
  have rw255 : M236 (o + 221) = (fun j => if j = 0 ∨ j = 1 then -1 else 0) := by rw [← hM237, m_new_s]
  clear hs235 hM237 hu238
  refine go_kn (k' := 221) (n' := 5831) (sz' := o + 222) (by omega) (by omega) (by omega) ?_
  refine go_dup X d_CiteForge_init_84 rfl ?_
  refine go_cI (st2 := []) (r := [vr (o + 221), vr o]) X k_CiteForge_47 (c_Page_init l D e254 rw255 (by omega) (by omega)) rfl rfl (by omega) (Nat.le_of_ble_eq_true rfl) d_CiteForge_init_85 (by omega) (by omega) (fun v sh256 M257 sz' hp => ?_)
  obtain ⟨e258, e259, hu260, pd261⟩ := hp
  subst e258
  refine go_kn (k' := 224) (n' := 6037) (sz' := o + 225) (by omega) (by omega) (by omega) ?_
  show Go g (224) (6037) sh256 M257 (o + 225) 88 [(0, vr o)] [vr (o + 221), vr o]
  have e262 : sh256 o = some (.inl (10, ts_CiteForge)) := hu260.s (by omega) e239
  have e263 : sh256 (o + 1) = some (.inr (.int, 10)) := hu260.s (by omega) e240
  have e264 : M257 o 5 < 0 := hu260.n (by omega) e241
  have e265 : M257 o 6 < 0 := hu260.n (by omega) e242
  have e266 : M257 o 0 = o + 1 := hu260.m (by omega) e243
  have e267 : M257 o 1 = o + 2 := hu260.m (by omega) e244
  have e268 : M257 o 2 = o + 157 := hu260.m (by omega) e245
  have e269 : M257 o 3 = o + 180 := hu260.m (by omega) e246
  have e270 : M257 o 4 = o + 183 := hu260.m (by omega) e247
  have rw271 : M257 (o + 1) = (fun _ => 0) := hu260.r (by omega) rw248
  have pd272 : shv sh256 M257 (o + 2) (o + 1) 0 (fun _ => sen0) := pd249.mv (hu260.as (by omega)) ((hu260 (o + 1) (by omega)).1)
  have pd273 : rdv sh256 M257 (o + 157) (o + 2) (o + 1) 0 [] (fun _ => 0) (fun _ => []) [] := pd250.mv (hu260.as (by omega)) ((hu260 (o + 1) (by omega)).1)
  have pd274 : civ sh256 M257 (o + 180) (o + 2) (o + 1) 0 0 (fun _ => 0) (fun _ => 0) := pd251.mv (hu260.as (by omega)) ((hu260 (o + 1) (by omega)).1)
  have pd275 : stv sh256 M257 (o + 183) (o + 1) 0 (fun _ => (0, 0, [])) := pd252.mv (hu260.as (by omega)) ((hu260 (o + 1) (by omega)).1)
  have up276 : up o sh M sh256 M257 := up253.tr hu260 (by omega)
  clear e239 e240 e241 e242 e243 e244 e245 e246 e247 e254 pd249 pd250 pd251 pd252 rw248 rw255
  clear hu260 e259
  refine go_putF (x := (o + 221)) (v := vr (o + 221)) X f_CiteForge_48 rfl e262 rfl d_CiteForge_init_88 (s_vref rfl (by omega)) rfl rfl f_CiteForge_48w ?_
  generalize hM278 : m_s M257 o 5 (o + 221) = M277
  have e279 : M277 o 6 < 0 := by rw [← hM278, m_s_n (fun q => absurd q.2 (by decide))]; exact e265
  have e280 : M277 o 0 = o + 1 := by rw [← hM278]; exact (m_s_n (fun q => absurd q.2 (by decide))).trans e266
  have e281 : M277 o 1 = o + 2 := by rw [← hM278]; exact (m_s_n (fun q => absurd q.2 (by decide))).trans e267
  have e282 : M277 o 2 = o + 157 := by rw [← hM278]; exact (m_s_n (fun q => absurd q.2 (by decide))).trans e268
  have e283 : M277 o 3 = o + 180 := by rw [← hM278]; exact (m_s_n (fun q => absurd q.2 (by decide))).trans e269
  have e284 : M277 o 4 = o + 183 := by rw [← hM278]; exact (m_s_n (fun q => absurd q.2 (by decide))).trans e270
  have rw285 : M277 (o + 1) = (fun _ => 0) := by rw [← hM278]; exact (m_s_a (of_ne0 (by decide))).trans rw271
  have pd286 : shv sh256 M277 (o + 2) (o + 1) 0 (fun _ => sen0) := by rw [← hM278]; exact pd272.mv (as_set (by omega)) rfl
  have pd287 : rdv sh256 M277 (o + 157) (o + 2) (o + 1) 0 [] (fun _ => 0) (fun _ => []) [] := by rw [← hM278]; exact pd273.mv (as_set (by omega)) rfl
  have pd288 : civ sh256 M277 (o + 180) (o + 2) (o + 1) 0 0 (fun _ => 0) (fun _ => 0) := by rw [← hM278]; exact pd274.mv (as_set (by omega)) rfl
  have pd289 : stv sh256 M277 (o + 183) (o + 1) 0 (fun _ => (0, 0, [])) := by rw [← hM278]; exact pd275.mv (as_set (by omega)) rfl
  have pd290 : pg0 sh256 M277 (o + 221) 0 [] := by rw [← hM278]; exact pd261.mv (as_set (by omega))
  have e291 : M277 o 5 = o + 221 := by rw [← hM278, m_s_s]
  have up292 : up o sh M sh256 M277 := by rw [← hM278]; exact up276.set (by omega)
  clear e264 e265 e266 e267 e268 e269 e270 pd261 pd272 pd273 pd274 pd275 rw271 up276 hM278
  refine go_aload_n X d_CiteForge_init_91 rfl rfl ?_
  refine go_new (ts := ts_Machine) (f := (fun j => if j = 0 ∨ j = 1 ∨ j = 2 ∨ j = 3 ∨ j = 4 ∨ j = 5 ∨ j = 6 ∨ j = 7 ∨ j = 8 ∨ j = 9 ∨ j = 10 ∨ j = 11 ∨ j = 12 ∨ j = 13 ∨ j = 14 ∨ j = 15 then -1 else 0)) X cls9_ok w_cl_CiteForge_52 w_in_9 w_ini_9 (by decide) (by decide) (by omega) (by omega) d_CiteForge_init_92 ?_
  generalize hs294 : s_up sh256 (o + 225) (.inl (9, ts_Machine)) = sh293
  generalize hM296 : m_new M277 (o + 225) (fun j => if j = 0 ∨ j = 1 ∨ j = 2 ∨ j = 3 ∨ j = 4 ∨ j = 5 ∨ j = 6 ∨ j = 7 ∨ j = 8 ∨ j = 9 ∨ j = 10 ∨ j = 11 ∨ j = 12 ∨ j = 13 ∨ j = 14 ∨ j = 15 then -1 else 0) = M295
  have hu297 : up (o + 225) sh256 M277 sh293 M295 := by rw [← hs294, ← hM296]; exact up.new
  have e298 : sh293 o = some (.inl (10, ts_CiteForge)) := hu297.s (by omega) e262
  have e299 : sh293 (o + 1) = some (.inr (.int, 10)) := hu297.s (by omega) e263
  have e300 : M295 o 6 < 0 := hu297.n (by omega) e279
  have e301 : M295 o 0 = o + 1 := hu297.m (by omega) e280
  have e302 : M295 o 1 = o + 2 := hu297.m (by omega) e281
  have e303 : M295 o 2 = o + 157 := hu297.m (by omega) e282
  have e304 : M295 o 3 = o + 180 := hu297.m (by omega) e283
  have e305 : M295 o 4 = o + 183 := hu297.m (by omega) e284
  have e306 : M295 o 5 = o + 221 := hu297.m (by omega) e291
  have rw307 : M295 (o + 1) = (fun _ => 0) := hu297.r (by omega) rw285
  have pd308 : shv sh293 M295 (o + 2) (o + 1) 0 (fun _ => sen0) := pd286.mv (hu297.as (by omega)) ((hu297 (o + 1) (by omega)).1)
  have pd309 : rdv sh293 M295 (o + 157) (o + 2) (o + 1) 0 [] (fun _ => 0) (fun _ => []) [] := pd287.mv (hu297.as (by omega)) ((hu297 (o + 1) (by omega)).1)
  have pd310 : civ sh293 M295 (o + 180) (o + 2) (o + 1) 0 0 (fun _ => 0) (fun _ => 0) := pd288.mv (hu297.as (by omega)) ((hu297 (o + 1) (by omega)).1)
  have pd311 : stv sh293 M295 (o + 183) (o + 1) 0 (fun _ => (0, 0, [])) := pd289.mv (hu297.as (by omega)) ((hu297 (o + 1) (by omega)).1)
  have pd312 : pg0 sh293 M295 (o + 221) 0 [] := pd290.mv (hu297.as (by omega))
  have up313 : up o sh M sh293 M295 := up292.tr hu297 (by omega)
  clear e262 e263 e279 e280 e281 e282 e283 e284 e291 pd286 pd287 pd288 pd289 pd290 rw285
  have e314 : sh293 (o + 225) = some (.inl (9, ts_Machine)) := by rw [← hs294, s_up_s]
  have rw315 : M295 (o + 225) = (fun j => if j = 0 ∨ j = 1 ∨ j = 2 ∨ j = 3 ∨ j = 4 ∨ j = 5 ∨ j = 6 ∨ j = 7 ∨ j = 8 ∨ j = 9 ∨ j = 10 ∨ j = 11 ∨ j = 12 ∨ j = 13 ∨ j = 14 ∨ j = 15 then -1 else 0) := by rw [← hM296, m_new_s]
  clear hs294 hM296 hu297
  refine go_kn (k' := 225) (n' := 6054) (sz' := o + 226) (by omega) (by omega) (by omega) ?_
  refine go_dup X d_CiteForge_init_95 rfl ?_
  refine go_aload_n X d_CiteForge_init_96 rfl rfl ?_
  refine go_get (v := vr (o + 2)) X f_CiteForge_18 e298 rfl d_CiteForge_init_97 (s_vref e302 (by omega)) ?_
  refine go_aload_n X d_CiteForge_init_100 rfl rfl ?_
  refine go_get (v := vr (o + 180)) X f_CiteForge_34 e298 rfl d_CiteForge_init_101 (s_vref e304 (by omega)) ?_
  refine go_aload_n X d_CiteForge_init_104 rfl rfl ?_
  refine go_get (v := vr (o + 183)) X f_CiteForge_41 e298 rfl d_CiteForge_init_105 (s_vref e305 (by omega)) ?_
  refine go_aload_n X d_CiteForge_init_108 rfl rfl ?_
  refine go_get (v := vr (o + 221)) X f_CiteForge_48 e298 rfl d_CiteForge_init_109 (s_vref e306 (by omega)) ?_
  refine go_aload_n X d_CiteForge_init_112 rfl rfl ?_
  refine go_get (v := vr (o + 1)) X f_CiteForge_9 e298 rfl d_CiteForge_init_113 (s_varr e301 (by omega)) ?_
  refine go_cI (st2 := []) (r := [vr (o + 225), vr o]) X k_CiteForge_54 (c_Machine_initZ l D e314 rw315 (by omega) (by omega) ⟨⟨by omega, by omega⟩, ⟨by omega, by omega⟩, by omega⟩) rfl rfl (by omega) (Nat.le_of_ble_eq_true rfl) d_CiteForge_init_116 (by omega) (by omega) (fun v sh316 M317 sz' hp => ?_)
  obtain ⟨e318, e319, hu320, pd321⟩ := hp
  subst e318
  refine go_kn (k' := 246) (n' := 6867) (sz' := o + 247) (by omega) (by omega) (by omega) ?_
  show Go g (246) (6867) sh316 M317 (o + 247) 119 [(0, vr o)] [vr (o + 225), vr o]
  have e322 : sh316 o = some (.inl (10, ts_CiteForge)) := hu320.s (by omega) e298
  have e323 : sh316 (o + 1) = some (.inr (.int, 10)) := hu320.s (by omega) e299
  have e324 : M317 o 6 < 0 := hu320.n (by omega) e300
  have e325 : M317 o 0 = o + 1 := hu320.m (by omega) e301
  have e326 : M317 o 1 = o + 2 := hu320.m (by omega) e302
  have e327 : M317 o 2 = o + 157 := hu320.m (by omega) e303
  have e328 : M317 o 3 = o + 180 := hu320.m (by omega) e304
  have e329 : M317 o 4 = o + 183 := hu320.m (by omega) e305
  have e330 : M317 o 5 = o + 221 := hu320.m (by omega) e306
  have rw331 : M317 (o + 1) = (fun _ => 0) := hu320.r (by omega) rw307
  have pd332 : shv sh316 M317 (o + 2) (o + 1) 0 (fun _ => sen0) := pd308.mv (hu320.as (by omega)) ((hu320 (o + 1) (by omega)).1)
  have pd333 : rdv sh316 M317 (o + 157) (o + 2) (o + 1) 0 [] (fun _ => 0) (fun _ => []) [] := pd309.mv (hu320.as (by omega)) ((hu320 (o + 1) (by omega)).1)
  have pd334 : civ sh316 M317 (o + 180) (o + 2) (o + 1) 0 0 (fun _ => 0) (fun _ => 0) := pd310.mv (hu320.as (by omega)) ((hu320 (o + 1) (by omega)).1)
  have pd335 : stv sh316 M317 (o + 183) (o + 1) 0 (fun _ => (0, 0, [])) := pd311.mv (hu320.as (by omega)) ((hu320 (o + 1) (by omega)).1)
  have pd336 : pg0 sh316 M317 (o + 221) 0 [] := pd312.mv (hu320.as (by omega))
  have up337 : up o sh M sh316 M317 := up313.tr hu320 (by omega)
  clear e298 e299 e300 e301 e302 e303 e304 e305 e306 e314 pd308 pd309 pd310 pd311 pd312 rw307 rw315
  clear hu320 e319
  refine go_putF (x := (o + 225)) (v := vr (o + 225)) X f_CiteForge_57 rfl e322 rfl d_CiteForge_init_119 (s_vref rfl (by omega)) rfl rfl f_CiteForge_57w ?_
  generalize hM339 : m_s M317 o 6 (o + 225) = M338
  have e340 : M338 o 0 = o + 1 := by rw [← hM339]; exact (m_s_n (fun q => absurd q.2 (by decide))).trans e325
  have e341 : M338 o 1 = o + 2 := by rw [← hM339]; exact (m_s_n (fun q => absurd q.2 (by decide))).trans e326
  have e342 : M338 o 2 = o + 157 := by rw [← hM339]; exact (m_s_n (fun q => absurd q.2 (by decide))).trans e327
  have e343 : M338 o 3 = o + 180 := by rw [← hM339]; exact (m_s_n (fun q => absurd q.2 (by decide))).trans e328
  have e344 : M338 o 4 = o + 183 := by rw [← hM339]; exact (m_s_n (fun q => absurd q.2 (by decide))).trans e329
  have e345 : M338 o 5 = o + 221 := by rw [← hM339]; exact (m_s_n (fun q => absurd q.2 (by decide))).trans e330
  have rw346 : M338 (o + 1) = (fun _ => 0) := by rw [← hM339]; exact (m_s_a (of_ne0 (by decide))).trans rw331
  have pd347 : shv sh316 M338 (o + 2) (o + 1) 0 (fun _ => sen0) := by rw [← hM339]; exact pd332.mv (as_set (by omega)) rfl
  have pd348 : rdv sh316 M338 (o + 157) (o + 2) (o + 1) 0 [] (fun _ => 0) (fun _ => []) [] := by rw [← hM339]; exact pd333.mv (as_set (by omega)) rfl
  have pd349 : civ sh316 M338 (o + 180) (o + 2) (o + 1) 0 0 (fun _ => 0) (fun _ => 0) := by rw [← hM339]; exact pd334.mv (as_set (by omega)) rfl
  have pd350 : stv sh316 M338 (o + 183) (o + 1) 0 (fun _ => (0, 0, [])) := by rw [← hM339]; exact pd335.mv (as_set (by omega)) rfl
  have pd351 : pg0 sh316 M338 (o + 221) 0 [] := by rw [← hM339]; exact pd336.mv (as_set (by omega))
  have pd352 : mcz sh316 M338 (o + 225) (o + 2) (o + 180) (o + 183) (o + 221) (o + 1) := by rw [← hM339]; exact pd321.mv (as_set (by omega))
  have e353 : M338 o 6 = o + 225 := by rw [← hM339, m_s_s]
  have up354 : up o sh M sh316 M338 := by rw [← hM339]; exact up337.set (by omega)
  clear e324 e325 e326 e327 e328 e329 e330 pd321 pd332 pd333 pd334 pd335 pd336 rw331 up337 hM339
  refine go_vret X d_CiteForge_init_122 rfl (by omega) (by omega) ?_
  exact ⟨rfl, rfl, up354, ⟨⟨⟨e322, e340, e341, e342, e343, e344, e345, e353, h0⟩, e323, rw346, pd347, pd348, pd349, pd350, pd351, pd352.1⟩, pd352.2⟩⟩
