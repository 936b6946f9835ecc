theorem l_divc {x c : Int} (hx : 0 ≤ x ∧ x < 9223372036854775808) (hc : 0 < c ∧ c < 9223372036854775808) : Int64.ofInt x / Int64.ofInt c = Int64.ofInt (x / c) := by
  rw [← Int.tdiv_eq_ediv_of_nonneg hx.1]
  exact (Int64.ofInt_tdiv (Int.le_trans (by decide) hx.1) (Int.le_trans (show x ≤ 9223372036854775807 by omega) (by decide)) (Int.le_trans (by decide) (Int.le_of_lt hc.1)) (Int.le_trans (show c ≤ 9223372036854775807 by omega) (by decide))).symm
theorem l_remc {x c : Int} (hx : 0 ≤ x ∧ x < 9223372036854775808) (hc : 0 < c ∧ c < 9223372036854775808) : Int64.ofInt x - Int64.ofInt x / Int64.ofInt c * Int64.ofInt c = Int64.ofInt (x % c) := by
  rw [l_divc hx hc, ← Int64.ofInt_mul, ← Int64.ofInt_sub]
  congr 1
  rw [Int.emod_def, Int.mul_comm c]
def hdv (hd : Int) (t : List Int) : sva := if 0 ≤ hd then (1, 0, t) else (2, 0, [])
def wkE (hd op x : Int) (s : rnT) : rnT :=
  if op = 16 then (sTN s.1, (rset s.2.1.1 (x % 4) (vN s.1), s.2.1.2), s.2.2)
  else if op = 17 then (sG (0, wi32 (s.2.1.1 (x % 4)), []) s.1, s.2)
  else if op = 18 then (sG (hdv hd (uof (u64 (s.2.1.2 hd).1.1))) s.1, s.2)
  else if op = 19 then (sG (hdv hd (uof (u64 (s.2.1.2 hd).1.2.1))) s.1, s.2)
  else if op = 20 then (sTT s.1, (s.2.1.1, if 0 ≤ hd then eset s.2.1.2 hd (sky (s.2.1.2 hd) (vT s.1)) else s.2.1.2), s.2.2)
  else if op = 21 then (sTT s.1, s.2.1, po (vT s.1) s.2.2.1, s.2.2.2)
  else (s.1, s.2.1, eol s.2.2.1, s.2.2.2)
set_option maxHeartbeats 4000000 in
set_option maxRecDepth 100000 in
theorem c_workOnEntry (l : Launch) (D : va_G) {sh : s_S} {M : s_M} {sz o hd ns : Int} {O Q Z : Int → Int} {s : rnT} (hX : mwx sh M sz o hd O Q Z ns s) {op : Int} (hop : 16 ≤ op ∧ op ≤ 22) {x : Int} (hxr : 0 ≤ x ∧ x < 9223372036854775808) (hhd : -1 ≤ hd ∧ hd < 8) (hn : s.2.2.1.1 < 2147480000) : Sp l D y_Machine_workOnEntry prog_5_method_15_code 4 none 7 (kc s.2.2.1.1 (wkE hd op x s).2.2.1.1) (91 * kc s.2.2.1.1 (wkE hd op x s).2.2.1.1) [vr (o + 225), vi op, vl x] sh M sz (fun v' sh' M' sz' => v' = none ∧ sz' = sz + ((kc s.2.2.1.1 (wkE hd op x s).2.2.1.1 : Nat) : Int) ∧ (∀ z, z < sz → sh' z = sh z) ∧ mwx sh' M' sz' o hd O Q Z ns (wkE hd op x s) ∧ fr (fun z => (z = o + 1 ∨ (o + 2 ≤ z ∧ z < o + 157) ∨ (o + 183 ≤ z ∧ z ≤ o + 246)) ∨ sz ≤ z) M M') := by
  obtain ⟨T1, T2, T3, U1, U2, h⟩ := hX
  have ho := h.2.2.2.2.2.2.2.2.2.2.2.2.2.2
  refine Sp.ofGo (own := "CiteForge$Machine") (nm := "workOnEntry") (by decide) rfl rfl (Nat.le_of_ble_eq_true rfl) (lv := [(0, vr (o + 225)), (1, vi op), (2, vl x)]) rfl ?_
  intro g X
  refine go_iload_n X d_Machine_workOnEntry_0 rfl rfl ?_
  rcases (show (op < 16 ∨ 22 < op) ∨ op = 16 ∨ op = 17 ∨ op = 18 ∨ op = 19 ∨ op = 20 ∨ op = 21 ∨ op = 22 by omega) with ht1 | ht1 | ht1 | ht1 | ht1 | ht1 | ht1 | ht1
  · skip
    refine go_tabOut (tgt := 220) X d_Machine_workOnEntry_1 (by omega) ht1 rfl ?_
    exfalso
    omega
  · skip
    refine go_tabIn (off := 43) (tgt := 44) X d_Machine_workOnEntry_1 (by omega) (by omega) (by omega) (by rw [ht1]; rfl) rfl ?_
    refine go_aload_n X d_Machine_workOnEntry_44 rfl rfl ?_
    refine go_get (v := vr (o + 225 + 9)) X f_Machine_48 h.2.2.1.1 rfl d_Machine_workOnEntry_45 (s_varr (show M (o + 225) 9 = o + 225 + 9 from h.2.2.1.2.2.2.1.2.2.2.2.1) (by omega)) ?_
    refine go_lload_n X d_Machine_workOnEntry_48 rfl rfl ?_
    refine go_ldc2 (x := 4) X w_kl_Machine_187 (by decide) d_Machine_workOnEntry_49 ?_
    refine go_lrem (z := x % 4) X d_Machine_workOnEntry_52 (by decide) (l_remc (by omega) (by decide)) ?_
    refine go_l2i X d_Machine_workOnEntry_53 ?_
    refine go_aload_n X d_Machine_workOnEntry_54 rfl rfl ?_
    refine go_get (v := vr (o + 183)) X f_Machine_19 h.2.2.1.1 rfl d_Machine_workOnEntry_55 (s_vref (show M (o + 225) 2 = o + 183 from h.2.2.1.2.2.1.2.2.1) (by omega)) ?_
    refine go_cV (st2 := []) (r := [vi (x % 4), vr (o + 225 + 9)]) X k_Machine_124 (x_takeNumber l D h ) h.2.1.1 rfl rfl (by omega) (Nat.le_of_ble_eq_true rfl) d_Machine_workOnEntry_58 (by omega) (by omega) (fun v' sh' M2 sz' hpp => ?_)
    obtain ⟨e1, e2, e3, rd3, fr4⟩ := hpp
    subst e1
    rw [e2, e3]
    clear e2 e3
    show Go g 0 0 sh M2 sz 61 [(0, vr (o + 225)), (1, vi op), (2, vl x)] [vi (qn (s.1.2.1) (s.1.2.2)), vi (x % 4), vr (o + 225 + 9)]
    refine go_iast (x := (qn (s.1.2.1) (s.1.2.2))) X rd3.2.2.1.2.1.2.2.2 (by omega) (by omega) d_Machine_workOnEntry_61 ?_
    have rd7 : mwd sh (m_s M2 (o + 225 + 9) (x % 4) (qn (s.1.2.1) (s.1.2.2))) sz o hd (s.2.2.2.1) O Q Z (rset (s.2.1.1) (x % 4) (qn (s.1.2.1) (s.1.2.2))) (qW (s.1.2.1) (s.1.2.2) (s.1.1)) (pn (s.1.2.1)) (s.1.2.2) T1 T2 T3 U1 U2 (s.2.2.2.2.1) (s.2.2.2.2.2.1) (s.2.2.2.2.2.2.1) (s.2.2.2.2.2.2.2.1) (s.2.2.2.2.2.2.2.2) ns (s.2.1.2) (s.2.2.1.1) (s.2.2.1.2.1) (s.2.2.1.2.2) := rd3.setG
    have fr8 : fr (fun z => z = o + 1 ∨ (o + 2 ≤ z ∧ z < o + 157) ∨ (o + 183 ≤ z ∧ z ≤ o + 246)) M2 (m_s M2 (o + 225 + 9) (x % 4) (qn (s.1.2.1) (s.1.2.2))) := fun z hz => by
      have hz1 : ¬ (z = o + 1 ∨ (o + 2 ≤ z ∧ z < o + 157) ∨ (o + 183 ≤ z ∧ z ≤ o + 246)) := hz
      exact m_s_a (by omega)
    generalize m_s M2 (o + 225 + 9) (x % 4) (qn (s.1.2.1) (s.1.2.2)) = M6 at rd7 fr8 ⊢
    have fr9 : fr (fun z => z = o + 1 ∨ (o + 2 ≤ z ∧ z < o + 157) ∨ (o + 183 ≤ z ∧ z ≤ o + 246)) M M6 := fun z hz => (fr8 z hz).trans (fr4 z hz)
    refine go_goto (tgt := 220) X d_Machine_workOnEntry_62 rfl ?_
    refine go_vret X d_Machine_workOnEntry_220 rfl (by omega) (by omega) ?_
    have hT : wkE hd op x s = (sTN s.1, (rset s.2.1.1 (x % 4) (vN s.1), s.2.1.2), s.2.2) := (if_pos (by omega))
    rw [hT]
    exact ⟨rfl, (by show sz = sz + ((kc s.2.2.1.1 s.2.2.1.1 : Nat) : Int); rw [kc_self]; omega), fun z _ => rfl, ⟨T1, T2, T3, U1, U2, rd7⟩, fun z hz => fr9 z (fun q => hz (Or.inl q))⟩
  · skip
    refine go_tabIn (off := 64) (tgt := 65) X d_Machine_workOnEntry_1 (by omega) (by omega) (by omega) (by rw [ht1]; rfl) rfl ?_
    refine go_aload_n X d_Machine_workOnEntry_65 rfl rfl ?_
    refine go_get (v := vr (o + 183)) X f_Machine_19 h.2.2.1.1 rfl d_Machine_workOnEntry_66 (s_vref (show M (o + 225) 2 = o + 183 from h.2.2.1.2.2.1.2.2.1) (by omega)) ?_
    refine go_aload_n X d_Machine_workOnEntry_69 rfl rfl ?_
    refine go_get (v := vr (o + 225 + 9)) X f_Machine_48 h.2.2.1.1 rfl d_Machine_workOnEntry_70 (s_varr (show M (o + 225) 9 = o + 225 + 9 from h.2.2.1.2.2.2.1.2.2.2.2.1) (by omega)) ?_
    refine go_lload_n X d_Machine_workOnEntry_73 rfl rfl ?_
    refine go_ldc2 (x := 4) X w_kl_Machine_187 (by decide) d_Machine_workOnEntry_74 ?_
    refine go_lrem (z := x % 4) X d_Machine_workOnEntry_77 (by decide) (l_remc (by omega) (by decide)) ?_
    refine go_l2i X d_Machine_workOnEntry_78 ?_
    refine go_iald X h.2.2.1.2.1.2.2.2 (by omega) (by omega) d_Machine_workOnEntry_79 ?_
    refine go_top (v' := vi ((s.2.1.1) (x % 4))) X (by rw [h.2.2.1.2.2.2.2.2.1.2.2.2]) ?_
    refine go_top (v' := vi (wi32 ((s.2.1.1) (x % 4)))) X (wi32_vi _) ?_
    refine go_cV (st2 := []) (r := []) X k_Machine_130 (x_giveNumber l D h (q := wi32 ((s.2.1.1) (x % 4))) (wi32_rng _)) h.2.1.1 rfl rfl (by omega) (Nat.le_of_ble_eq_true rfl) d_Machine_workOnEntry_80 (by omega) (by omega) (fun v' sh' M10 sz' hpp => ?_)
    obtain ⟨e1, e2, e3, rd11, fr12⟩ := hpp
    subst e1
    rw [e2, e3]
    clear e2 e3
    show Go g 0 0 sh M10 sz 83 [(0, vr (o + 225)), (1, vi op), (2, vl x)] []
    refine go_goto (tgt := 220) X d_Machine_workOnEntry_83 rfl ?_
    refine go_vret X d_Machine_workOnEntry_220 rfl (by omega) (by omega) ?_
    have hT : wkE hd op x s = (sG (0, wi32 (s.2.1.1 (x % 4)), []) s.1, s.2) := (if_neg (by omega)).trans ((if_pos (by omega)))
    rw [hT]
    exact ⟨rfl, (by show sz = sz + ((kc s.2.2.1.1 s.2.2.1.1 : Nat) : Int); rw [kc_self]; omega), fun z _ => rfl, ⟨T1, T2, T3, U1, U2, rd11⟩, fun z hz => fr12 z (fun q => hz (Or.inl q))⟩
  · skip
    refine go_tabIn (off := 85) (tgt := 86) X d_Machine_workOnEntry_1 (by omega) (by omega) (by omega) (by rw [ht1]; rfl) rfl ?_
    refine go_aload_n X d_Machine_workOnEntry_86 rfl rfl ?_
    refine go_get (v := vr (o + 183)) X f_Machine_19 h.2.2.1.1 rfl d_Machine_workOnEntry_87 (s_vref (show M (o + 225) 2 = o + 183 from h.2.2.1.2.2.1.2.2.1) (by omega)) ?_
    refine go_aload_n X d_Machine_workOnEntry_90 rfl rfl ?_
    rcases Int.lt_or_le hd 0 with hh | hh
    · skip
      refine go_get (v := .null) X f_Machine_86 h.2.2.1.1 rfl d_Machine_workOnEntry_91 (s_vnull (show M (o + 225) 15 < 0 from by rw [h.2.2.2.2.2.2.2.2.1.1]; unfold hqq; rw [if_neg (by omega)]; decide)) ?_
      refine go_ifnonnullN X d_Machine_workOnEntry_94 ?_
      refine go_null X d_Machine_workOnEntry_97 ?_
      refine go_goto (tgt := 112) X d_Machine_workOnEntry_98 rfl ?_
      refine go_cV (st2 := []) (r := []) X k_Machine_137 (x_giveTextN l D h ) h.2.1.1 rfl rfl (by omega) (Nat.le_of_ble_eq_true rfl) d_Machine_workOnEntry_112 (by omega) (by omega) (fun v' sh' M14 sz' hpp => ?_)
      obtain ⟨e1, e2, e3, rd15, fr16⟩ := hpp
      subst e1
      rw [e2, e3]
      clear e2 e3
      show Go g 0 0 sh M14 sz 115 [(0, vr (o + 225)), (1, vi op), (2, vl x)] []
      refine go_goto (tgt := 220) X d_Machine_workOnEntry_115 rfl ?_
      refine go_vret X d_Machine_workOnEntry_220 rfl (by omega) (by omega) ?_
      have hT : wkE hd op x s = (sG (hdv hd (uof (u64 (s.2.1.2 hd).1.1))) s.1, s.2) := (if_neg (by omega)).trans ((if_neg (by omega)).trans ((if_pos (by omega))))
      have hD : hdv hd (uof (u64 (s.2.1.2 hd).1.1)) = (2, 0, []) := if_neg (by omega)
      rw [hD] at hT
      rw [hT]
      exact ⟨rfl, (by show sz = sz + ((kc s.2.2.1.1 s.2.2.1.1 : Nat) : Int); rw [kc_self]; omega), fun z _ => rfl, ⟨T1, T2, T3, U1, U2, rd15⟩, fun z hz => fr16 z (fun q => hz (Or.inl q))⟩
    · skip
      refine go_get (v := vr (o + 2 + 2 + 17 * hd)) X f_Machine_86 h.2.2.1.1 rfl d_Machine_workOnEntry_91 (s_vref (show M (o + 225) 15 = o + 2 + 2 + 17 * hd from h.2.2.2.2.2.2.2.2.1.1.trans (if_pos hh)) (by omega)) ?_
      refine go_ifnonnull (tgt := 101) X d_Machine_workOnEntry_94 rfl ?_
      refine go_aload_n X d_Machine_workOnEntry_101 rfl rfl ?_
      refine go_aload_n X d_Machine_workOnEntry_102 rfl rfl ?_
      refine go_get (v := vr (o + 2 + 2 + 17 * hd)) X f_Machine_86 h.2.2.1.1 rfl d_Machine_workOnEntry_103 (s_vref (show M (o + 225) 15 = o + 2 + 2 + 17 * hd from h.2.2.2.2.2.2.2.2.1.1.trans (if_pos hh)) (by omega)) ?_
      have en18 := (h.2.2.2.2.2.2.2.2.2.1.ent (i := hd) hh (by omega)).2
      refine go_get (v := vl ((s.2.1.2 hd).1.1)) X f_Machine_189 en18.1 rfl d_Machine_workOnEntry_106 (congrArg (s_v .long) en18.2.2.2.1) ?_
      have hkr := (h.2.2.2.2.2.2.2.2.2.1.ent (i := hd) hh (by omega)).2.2.2.2.2.2.2.2.2.2.2.2.2.2.2.1.1
      refine go_cV (st2 := []) (r := [vr (o + 183)]) X k_Machine_133 (x_textOf l D h hkr) h.2.2.1.1 rfl rfl (by omega) (Nat.le_of_ble_eq_true rfl) d_Machine_workOnEntry_109 (by omega) (by omega) (fun v' sh' M19 sz' hpp => ?_)
      obtain ⟨e1, e2, e3, rd20, fr21⟩ := hpp
      subst e1
      rw [e2, e3]
      clear e2 e3
      show Go g 0 0 sh M19 sz 112 [(0, vr (o + 225)), (1, vi op), (2, vl x)] [vr (o + 239), vr (o + 183)]
      refine go_cV (st2 := []) (r := []) X k_Machine_137 (x_giveText3 l D rd20 ) rd20.2.1.1 rfl rfl (by omega) (Nat.le_of_ble_eq_true rfl) d_Machine_workOnEntry_112 (by omega) (by omega) (fun v' sh' M23 sz' hpp => ?_)
      obtain ⟨e1, e2, e3, rd24, fr25⟩ := hpp
      subst e1
      rw [e2, e3]
      clear e2 e3
      show Go g 0 0 sh M23 sz 115 [(0, vr (o + 225)), (1, vi op), (2, vl x)] []
      have fr26 : fr (fun z => z = o + 1 ∨ (o + 2 ≤ z ∧ z < o + 157) ∨ (o + 183 ≤ z ∧ z ≤ o + 246)) M M23 := fun z hz => (fr25 z hz).trans (fr21 z hz)
      refine go_goto (tgt := 220) X d_Machine_workOnEntry_115 rfl ?_
      refine go_vret X d_Machine_workOnEntry_220 rfl (by omega) (by omega) ?_
      have hT : wkE hd op x s = (sG (hdv hd (uof (u64 (s.2.1.2 hd).1.1))) s.1, s.2) := (if_neg (by omega)).trans ((if_neg (by omega)).trans ((if_pos (by omega))))
      have hD : hdv hd (uof (u64 (s.2.1.2 hd).1.1)) = (1, 0, uof (u64 (s.2.1.2 hd).1.1)) := if_pos hh
      rw [hD] at hT
      rw [hT]
      exact ⟨rfl, (by show sz = sz + ((kc s.2.2.1.1 s.2.2.1.1 : Nat) : Int); rw [kc_self]; omega), fun z _ => rfl, ⟨T1, T2, uof (u64 ((s.2.1.2 hd).1.1)), U1, U2, rd24⟩, fun z hz => fr26 z (fun q => hz (Or.inl q))⟩
  · skip
    refine go_tabIn (off := 117) (tgt := 118) X d_Machine_workOnEntry_1 (by omega) (by omega) (by omega) (by rw [ht1]; rfl) rfl ?_
    refine go_aload_n X d_Machine_workOnEntry_118 rfl rfl ?_
    refine go_get (v := vr (o + 183)) X f_Machine_19 h.2.2.1.1 rfl d_Machine_workOnEntry_119 (s_vref (show M (o + 225) 2 = o + 183 from h.2.2.1.2.2.1.2.2.1) (by omega)) ?_
    refine go_aload_n X d_Machine_workOnEntry_122 rfl rfl ?_
    rcases Int.lt_or_le hd 0 with hh | hh
    · skip
      refine go_get (v := .null) X f_Machine_86 h.2.2.1.1 rfl d_Machine_workOnEntry_123 (s_vnull (show M (o + 225) 15 < 0 from by rw [h.2.2.2.2.2.2.2.2.1.1]; unfold hqq; rw [if_neg (by omega)]; decide)) ?_
      refine go_ifnonnullN X d_Machine_workOnEntry_126 ?_
      refine go_null X d_Machine_workOnEntry_129 ?_
      refine go_goto (tgt := 144) X d_Machine_workOnEntry_130 rfl ?_
      refine go_cV (st2 := []) (r := []) X k_Machine_137 (x_giveTextN l D h ) h.2.1.1 rfl rfl (by omega) (Nat.le_of_ble_eq_true rfl) d_Machine_workOnEntry_144 (by omega) (by omega) (fun v' sh' M27 sz' hpp => ?_)
      obtain ⟨e1, e2, e3, rd28, fr29⟩ := hpp
      subst e1
      rw [e2, e3]
      clear e2 e3
      show Go g 0 0 sh M27 sz 147 [(0, vr (o + 225)), (1, vi op), (2, vl x)] []
      refine go_goto (tgt := 220) X d_Machine_workOnEntry_147 rfl ?_
      refine go_vret X d_Machine_workOnEntry_220 rfl (by omega) (by omega) ?_
      have hT : wkE hd op x s = (sG (hdv hd (uof (u64 (s.2.1.2 hd).1.2.1))) s.1, s.2) := (if_neg (by omega)).trans ((if_neg (by omega)).trans ((if_neg (by omega)).trans ((if_pos (by omega)))))
      have hD : hdv hd (uof (u64 (s.2.1.2 hd).1.2.1)) = (2, 0, []) := if_neg (by omega)
      rw [hD] at hT
      rw [hT]
      exact ⟨rfl, (by show sz = sz + ((kc s.2.2.1.1 s.2.2.1.1 : Nat) : Int); rw [kc_self]; omega), fun z _ => rfl, ⟨T1, T2, T3, U1, U2, rd28⟩, fun z hz => fr29 z (fun q => hz (Or.inl q))⟩
    · skip
      refine go_get (v := vr (o + 2 + 2 + 17 * hd)) X f_Machine_86 h.2.2.1.1 rfl d_Machine_workOnEntry_123 (s_vref (show M (o + 225) 15 = o + 2 + 2 + 17 * hd from h.2.2.2.2.2.2.2.2.1.1.trans (if_pos hh)) (by omega)) ?_
      refine go_ifnonnull (tgt := 133) X d_Machine_workOnEntry_126 rfl ?_
      refine go_aload_n X d_Machine_workOnEntry_133 rfl rfl ?_
      refine go_aload_n X d_Machine_workOnEntry_134 rfl rfl ?_
      refine go_get (v := vr (o + 2 + 2 + 17 * hd)) X f_Machine_86 h.2.2.1.1 rfl d_Machine_workOnEntry_135 (s_vref (show M (o + 225) 15 = o + 2 + 2 + 17 * hd from h.2.2.2.2.2.2.2.2.1.1.trans (if_pos hh)) (by omega)) ?_
      have en31 := (h.2.2.2.2.2.2.2.2.2.1.ent (i := hd) hh (by omega)).2
      refine go_get (v := vl ((s.2.1.2 hd).1.2.1)) X f_Machine_195 en31.1 rfl d_Machine_workOnEntry_138 (congrArg (s_v .long) en31.2.2.2.2.1) ?_
      have hkr := (h.2.2.2.2.2.2.2.2.2.1.ent (i := hd) hh (by omega)).2.2.2.2.2.2.2.2.2.2.2.2.2.2.2.1.2.1
      refine go_cV (st2 := []) (r := [vr (o + 183)]) X k_Machine_133 (x_textOf l D h hkr) h.2.2.1.1 rfl rfl (by omega) (Nat.le_of_ble_eq_true rfl) d_Machine_workOnEntry_141 (by omega) (by omega) (fun v' sh' M32 sz' hpp => ?_)
      obtain ⟨e1, e2, e3, rd33, fr34⟩ := hpp
      subst e1
      rw [e2, e3]
      clear e2 e3
      show Go g 0 0 sh M32 sz 144 [(0, vr (o + 225)), (1, vi op), (2, vl x)] [vr (o + 239), vr (o + 183)]
      refine go_cV (st2 := []) (r := []) X k_Machine_137 (x_giveText3 l D rd33 ) rd33.2.1.1 rfl rfl (by omega) (Nat.le_of_ble_eq_true rfl) d_Machine_workOnEntry_144 (by omega) (by omega) (fun v' sh' M36 sz' hpp => ?_)
      obtain ⟨e1, e2, e3, rd37, fr38⟩ := hpp
      subst e1
      rw [e2, e3]
      clear e2 e3
      show Go g 0 0 sh M36 sz 147 [(0, vr (o + 225)), (1, vi op), (2, vl x)] []
      have fr39 : fr (fun z => z = o + 1 ∨ (o + 2 ≤ z ∧ z < o + 157) ∨ (o + 183 ≤ z ∧ z ≤ o + 246)) M M36 := fun z hz => (fr38 z hz).trans (fr34 z hz)
      refine go_goto (tgt := 220) X d_Machine_workOnEntry_147 rfl ?_
      refine go_vret X d_Machine_workOnEntry_220 rfl (by omega) (by omega) ?_
      have hT : wkE hd op x s = (sG (hdv hd (uof (u64 (s.2.1.2 hd).1.2.1))) s.1, s.2) := (if_neg (by omega)).trans ((if_neg (by omega)).trans ((if_neg (by omega)).trans ((if_pos (by omega)))))
      have hD : hdv hd (uof (u64 (s.2.1.2 hd).1.2.1)) = (1, 0, uof (u64 (s.2.1.2 hd).1.2.1)) := if_pos hh
      rw [hD] at hT
      rw [hT]
      exact ⟨rfl, (by show sz = sz + ((kc s.2.2.1.1 s.2.2.1.1 : Nat) : Int); rw [kc_self]; omega), fun z _ => rfl, ⟨T1, T2, uof (u64 ((s.2.1.2 hd).1.2.1)), U1, U2, rd37⟩, fun z hz => fr39 z (fun q => hz (Or.inl q))⟩
  · skip
    refine go_tabIn (off := 149) (tgt := 150) X d_Machine_workOnEntry_1 (by omega) (by omega) (by omega) (by rw [ht1]; rfl) rfl ?_
    refine go_aload_n X d_Machine_workOnEntry_150 rfl rfl ?_
    refine go_get (v := vr (o + 183)) X f_Machine_19 h.2.2.1.1 rfl d_Machine_workOnEntry_151 (s_vref (show M (o + 225) 2 = o + 183 from h.2.2.1.2.2.1.2.2.1) (by omega)) ?_
    refine go_aload_n X d_Machine_workOnEntry_154 rfl rfl ?_
    refine go_get (v := vr (o + 235)) X f_Machine_56 h.2.2.1.1 rfl d_Machine_workOnEntry_155 (s_vref (show M (o + 225) 10 = o + 235 from h.2.2.1.2.2.2.1.2.2.2.2.2.1.trans (by omega)) (by omega)) ?_
    refine go_cV (st2 := []) (r := []) X k_Machine_160 (x_takeText1 l D h ) h.2.1.1 rfl rfl (by omega) (Nat.le_of_ble_eq_true rfl) d_Machine_workOnEntry_158 (by omega) (by omega) (fun v' sh' M40 sz' hpp => ?_)
    obtain ⟨e1, e2, e3, rd41, fr42⟩ := hpp
    subst e1
    rw [e2, e3]
    clear e2 e3
    show Go g 0 0 sh M40 sz 161 [(0, vr (o + 225)), (1, vi op), (2, vl x)] []
    refine go_aload_n X d_Machine_workOnEntry_161 rfl rfl ?_
    rcases Int.lt_or_le hd 0 with hh | hh
    · skip
      refine go_get (v := .null) X f_Machine_86 rd41.2.2.1.1 rfl d_Machine_workOnEntry_162 (s_vnull (show M40 (o + 225) 15 < 0 from by rw [rd41.2.2.2.2.2.2.2.2.1.1]; unfold hqq; rw [if_neg (by omega)]; decide)) ?_
      refine go_ifnullN (tgt := 220) X d_Machine_workOnEntry_165 rfl ?_
      refine go_vret X d_Machine_workOnEntry_220 rfl (by omega) (by omega) ?_
      have hT : wkE hd op x s = (sTT s.1, (s.2.1.1, if 0 ≤ hd then eset s.2.1.2 hd (sky (s.2.1.2 hd) (vT s.1)) else s.2.1.2), s.2.2) := (if_neg (by omega)).trans ((if_neg (by omega)).trans ((if_neg (by omega)).trans ((if_neg (by omega)).trans ((if_pos (by omega))))))
      rw [if_neg (show ¬ 0 ≤ hd by omega)] at hT
      rw [hT]
      exact ⟨rfl, (by show sz = sz + ((kc s.2.2.1.1 s.2.2.1.1 : Nat) : Int); rw [kc_self]; omega), fun z _ => rfl, ⟨qt (s.1.2.1) (s.1.2.2), T2, T3, U1, U2, rd41⟩, fun z hz => fr42 z (fun q => hz (Or.inl q))⟩
    · skip
      refine go_get (v := vr (o + 2 + 2 + 17 * hd)) X f_Machine_86 rd41.2.2.1.1 rfl d_Machine_workOnEntry_162 (s_vref (show M40 (o + 225) 15 = o + 2 + 2 + 17 * hd from rd41.2.2.2.2.2.2.2.2.1.1.trans (if_pos hh)) (by omega)) ?_
      refine go_ifnull X d_Machine_workOnEntry_165 ?_
      refine go_aload_n X d_Machine_workOnEntry_168 rfl rfl ?_
      refine go_get (v := vr (o + 2 + 2 + 17 * hd)) X f_Machine_86 rd41.2.2.1.1 rfl d_Machine_workOnEntry_169 (s_vref (show M40 (o + 225) 15 = o + 2 + 2 + 17 * hd from rd41.2.2.2.2.2.2.2.2.1.1.trans (if_pos hh)) (by omega)) ?_
      have en44 := (rd41.2.2.2.2.2.2.2.2.2.1.ent (i := hd) hh (by omega)).2
      refine go_get (v := vr (o + 2 + 2 + 17 * hd + 15)) X f_Machine_198 en44.1 rfl d_Machine_workOnEntry_172 (s_vref (show M40 (o + 2 + 2 + 17 * hd) 6 = o + 2 + 2 + 17 * hd + 15 from en44.2.2.2.2.2.2.2.2.2.1) (by omega)) ?_
      refine go_aload_n X d_Machine_workOnEntry_175 rfl rfl ?_
      refine go_get (v := vr (o + 235)) X f_Machine_56 rd41.2.2.1.1 rfl d_Machine_workOnEntry_176 (s_vref (show M40 (o + 225) 10 = o + 235 from rd41.2.2.1.2.2.2.1.2.2.2.2.2.1.trans (by omega)) (by omega)) ?_
      refine go_cV (st2 := []) (r := []) X k_Machine_201 (x_sortKey l D rd41 ⟨hh, by omega⟩) en44.2.2.2.2.2.2.2.2.2.2.2.2.2.2.2.2.1.1 rfl rfl (by omega) (Nat.le_of_ble_eq_true rfl) d_Machine_workOnEntry_179 (by omega) (by omega) (fun v' sh' M45 sz' hpp => ?_)
      obtain ⟨e1, e2, e3, rd46, fr47⟩ := hpp
      subst e1
      rw [e2, e3]
      clear e2 e3
      show Go g 0 0 sh M45 sz 182 [(0, vr (o + 225)), (1, vi op), (2, vl x)] []
      have fr48 : fr (fun z => z = o + 1 ∨ (o + 2 ≤ z ∧ z < o + 157) ∨ (o + 183 ≤ z ∧ z ≤ o + 246)) M M45 := fun z hz => (fr47 z hz).trans (fr42 z hz)
      refine go_goto (tgt := 220) X d_Machine_workOnEntry_182 rfl ?_
      refine go_vret X d_Machine_workOnEntry_220 rfl (by omega) (by omega) ?_
      have hT : wkE hd op x s = (sTT s.1, (s.2.1.1, if 0 ≤ hd then eset s.2.1.2 hd (sky (s.2.1.2 hd) (vT s.1)) else s.2.1.2), s.2.2) := (if_neg (by omega)).trans ((if_neg (by omega)).trans ((if_neg (by omega)).trans ((if_neg (by omega)).trans ((if_pos (by omega))))))
      rw [if_pos hh] at hT
      rw [hT]
      exact ⟨rfl, (by show sz = sz + ((kc s.2.2.1.1 s.2.2.1.1 : Nat) : Int); rw [kc_self]; omega), fun z _ => rfl, ⟨qt (s.1.2.1) (s.1.2.2), T2, T3, U1, U2, rd46⟩, fun z hz => fr48 z (fun q => hz (Or.inl q))⟩
  · skip
    refine go_tabIn (off := 184) (tgt := 185) X d_Machine_workOnEntry_1 (by omega) (by omega) (by omega) (by rw [ht1]; rfl) rfl ?_
    refine go_aload_n X d_Machine_workOnEntry_185 rfl rfl ?_
    refine go_get (v := vr (o + 183)) X f_Machine_19 h.2.2.1.1 rfl d_Machine_workOnEntry_186 (s_vref (show M (o + 225) 2 = o + 183 from h.2.2.1.2.2.1.2.2.1) (by omega)) ?_
    refine go_aload_n X d_Machine_workOnEntry_189 rfl rfl ?_
    refine go_get (v := vr (o + 235)) X f_Machine_56 h.2.2.1.1 rfl d_Machine_workOnEntry_190 (s_vref (show M (o + 225) 10 = o + 235 from h.2.2.1.2.2.2.1.2.2.2.2.2.1.trans (by omega)) (by omega)) ?_
    refine go_cV (st2 := []) (r := []) X k_Machine_160 (x_takeText1 l D h ) h.2.1.1 rfl rfl (by omega) (Nat.le_of_ble_eq_true rfl) d_Machine_workOnEntry_193 (by omega) (by omega) (fun v' sh' M49 sz' hpp => ?_)
    obtain ⟨e1, e2, e3, rd50, fr51⟩ := hpp
    subst e1
    rw [e2, e3]
    clear e2 e3
    show Go g 0 0 sh M49 sz 196 [(0, vr (o + 225)), (1, vi op), (2, vl x)] []
    refine go_aload_n X d_Machine_workOnEntry_196 rfl rfl ?_
    refine go_get (v := vr (o + 221)) X f_Machine_23 rd50.2.2.1.1 rfl d_Machine_workOnEntry_197 (s_vref (show M49 (o + 225) 3 = o + 221 from rd50.2.2.1.2.2.1.2.2.2.1) (by omega)) ?_
    refine go_aload_n X d_Machine_workOnEntry_200 rfl rfl ?_
    refine go_get (v := vr (o + 235)) X f_Machine_56 rd50.2.2.1.1 rfl d_Machine_workOnEntry_201 (s_vref (show M49 (o + 225) 10 = o + 235 from rd50.2.2.1.2.2.2.1.2.2.2.2.2.1.trans (by omega)) (by omega)) ?_
    have hT : wkE hd op x s = (sTT s.1, s.2.1, po (vT s.1) s.2.2.1, s.2.2.2) := (if_neg (by omega)).trans ((if_neg (by omega)).trans ((if_neg (by omega)).trans ((if_neg (by omega)).trans ((if_neg (by omega)).trans ((if_pos (by omega)))))))
    have hk1 : kc s.2.2.1.1 (po (qt (s.1.2.1) (s.1.2.2)) (s.2.2.1.1, s.2.2.1.2.1, s.2.2.1.2.2)).1 = kc s.2.2.1.1 (wkE hd op x s).2.2.1.1 := (congrArg (fun q : rnT => kc s.2.2.1.1 q.2.2.1.1) hT).symm
    refine go_cV (st2 := []) (r := []) X k_Machine_204 (x_putOut l D rd50 hn) rd50.2.2.2.2.2.2.2.2.2.2.1.1 rfl rfl (by omega) (Nat.le_of_ble_eq_true rfl) d_Machine_workOnEntry_204 (by omega) (by omega) (fun v' shn Mn zn hpp => ?_)
    obtain ⟨e1, hz0, hss, rdn, f2n⟩ := hpp
    subst e1
    have hzz : zn = sz + ((kc s.2.2.1.1 ((sTT s.1, s.2.1, po (vT s.1) s.2.2.1, s.2.2.2)).2.2.1.1 : Nat) : Int) := hz0
    have hff : fr (fun z => (z = o + 1 ∨ (o + 2 ≤ z ∧ z < o + 157) ∨ (o + 183 ≤ z ∧ z ≤ o + 246)) ∨ sz ≤ z) M Mn := fun z hz => by
      have hz1 : ¬ ((z = o + 1 ∨ (o + 2 ≤ z ∧ z < o + 157) ∨ (o + 183 ≤ z ∧ z ≤ o + 246)) ∨ sz ≤ z) := hz
      exact (f2n z (by show ¬ ((o + 221 ≤ z ∧ z ≤ o + 224) ∨ sz ≤ z); omega)).trans (fr51 z (fun q => hz (Or.inl q)))
    show Go g (0 + kc s.2.2.1.1 (po (qt (s.1.2.1) (s.1.2.2)) (s.2.2.1.1, s.2.2.1.2.1, s.2.2.1.2.2)).1) (0 + 91 * kc s.2.2.1.1 (po (qt (s.1.2.1) (s.1.2.2)) (s.2.2.1.1, s.2.2.1.2.1, s.2.2.1.2.2)).1) shn Mn zn 207 [(0, vr (o + 225)), (1, vi op), (2, vl x)] []
    refine go_goto (tgt := 220) X d_Machine_workOnEntry_207 rfl ?_
    refine go_vret X d_Machine_workOnEntry_220 rfl (by omega) (by omega) ?_
    rw [hT]
    exact ⟨rfl, hzz, hss, ⟨qt (s.1.2.1) (s.1.2.2), T2, T3, U1, U2, rdn⟩, hff⟩
  · skip
    refine go_tabIn (off := 209) (tgt := 210) X d_Machine_workOnEntry_1 (by omega) (by omega) (by omega) (by rw [ht1]; rfl) rfl ?_
    refine go_aload_n X d_Machine_workOnEntry_210 rfl rfl ?_
    refine go_get (v := vr (o + 221)) X f_Machine_23 h.2.2.1.1 rfl d_Machine_workOnEntry_211 (s_vref (show M (o + 225) 3 = o + 221 from h.2.2.1.2.2.1.2.2.2.1) (by omega)) ?_
    have hT : wkE hd op x s = (s.1, s.2.1, eol s.2.2.1, s.2.2.2) := (if_neg (by omega)).trans ((if_neg (by omega)).trans ((if_neg (by omega)).trans ((if_neg (by omega)).trans ((if_neg (by omega)).trans ((if_neg (by omega)))))))
    have hk1 : kc s.2.2.1.1 (eol (s.2.2.1.1, s.2.2.1.2.1, s.2.2.1.2.2)).1 = kc s.2.2.1.1 (wkE hd op x s).2.2.1.1 := (congrArg (fun q : rnT => kc s.2.2.1.1 q.2.2.1.1) hT).symm
    refine go_cV (st2 := []) (r := []) X k_Machine_209 (x_endLine l D h hn) h.2.2.2.2.2.2.2.2.2.2.1.1 rfl rfl (by omega) (Nat.le_of_ble_eq_true rfl) d_Machine_workOnEntry_214 (by omega) (by omega) (fun v' shn Mn zn hpp => ?_)
    obtain ⟨e1, hz0, hss, rdn, f2n⟩ := hpp
    subst e1
    have hzz : zn = sz + ((kc s.2.2.1.1 ((s.1, s.2.1, eol s.2.2.1, s.2.2.2)).2.2.1.1 : Nat) : Int) := hz0
    have hff : fr (fun z => (z = o + 1 ∨ (o + 2 ≤ z ∧ z < o + 157) ∨ (o + 183 ≤ z ∧ z ≤ o + 246)) ∨ sz ≤ z) M Mn := fun z hz => by
      have hz1 : ¬ ((z = o + 1 ∨ (o + 2 ≤ z ∧ z < o + 157) ∨ (o + 183 ≤ z ∧ z ≤ o + 246)) ∨ sz ≤ z) := hz
      exact (f2n z (by show ¬ ((o + 221 ≤ z ∧ z ≤ o + 224) ∨ sz ≤ z); omega))
    show Go g (0 + kc s.2.2.1.1 (eol (s.2.2.1.1, s.2.2.1.2.1, s.2.2.1.2.2)).1) (0 + 91 * kc s.2.2.1.1 (eol (s.2.2.1.1, s.2.2.1.2.1, s.2.2.1.2.2)).1) shn Mn zn 217 [(0, vr (o + 225)), (1, vi op), (2, vl x)] []
    refine go_goto (tgt := 220) X d_Machine_workOnEntry_217 rfl ?_
    refine go_vret X d_Machine_workOnEntry_220 rfl (by omega) (by omega) ?_
    rw [hT]
    exact ⟨rfl, hzz, hss, ⟨T1, T2, T3, U1, U2, rdn⟩, hff⟩
