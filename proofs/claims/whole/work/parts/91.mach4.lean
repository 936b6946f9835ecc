theorem rck_rng (op a b : Int) : -2147483648 ≤ rck op a b ∧ rck op a b < 2147483648 := by
  unfold rck
  split
  · exact wi32_rng _
  · split
    · exact wi32_rng _
    · split
      · split <;> decide
      · split <;> decide
set_option maxHeartbeats 4000000 in
set_option maxRecDepth 100000 in
theorem c_workOnStack (l : Launch) (D : va_G) {sh : s_S} {M : s_M} {sz o hd ns : Int} {O Q Z : Int → Int} {s : rnT} (hX : mwx sh M sz o hd O Q Z ns s) {op : Int} (hop : 0 ≤ op ∧ op ≤ 12) {x : Int} (hxr : rL x) (hhd : -1 ≤ hd ∧ hd < 8) : Sp l D y_Machine_workOnStack prog_5_method_12_code 4 none 6 0 0 [vr (o + 225), vi op, vl x] sh M sz (fun v' sh' M' sz' => v' = none ∧ sh' = sh ∧ sz' = sz ∧ mwx sh M' sz o hd O Q Z ns (wkS hd ns op x s) ∧ fr (fun z => z = o + 1 ∨ (o + 2 ≤ z ∧ z < o + 157) ∨ (o + 183 ≤ z ∧ z ≤ o + 246)) M M') := by
  obtain ⟨T1, T2, T3, U1, U2, h⟩ := hX
  have ho := h.2.2.2.2.2.2.2.2.2.2.2.2.2.2
  refine Sp.ofGo (own := "CiteForge$Machine") (nm := "workOnStack") (by decide) rfl rfl (Nat.le_of_ble_eq_true rfl) (lv := [(0, vr (o + 225)), (1, vi op), (2, vl x)]) rfl ?_
  intro g X
  refine go_iload_n X d_Machine_workOnStack_0 rfl rfl ?_
  rcases (show (op < 0 ∨ 12 < op) ∨ op = 0 ∨ op = 1 ∨ op = 2 ∨ op = 3 ∨ op = 4 ∨ op = 5 ∨ op = 6 ∨ op = 7 ∨ op = 8 ∨ op = 9 ∨ op = 10 ∨ op = 11 ∨ op = 12 by omega) with ht1 | ht1 | ht1 | ht1 | ht1 | ht1 | ht1 | ht1 | ht1 | ht1 | ht1 | ht1 | ht1 | ht1
  · skip
    refine go_tabOut (tgt := 336) X d_Machine_workOnStack_1 (by omega) ht1 rfl ?_
    exfalso
    omega
  · skip
    refine go_tabIn (off := 67) (tgt := 68) X d_Machine_workOnStack_1 (by omega) (by omega) (by omega) (by rw [ht1]; rfl) rfl ?_
    refine go_aload_n X d_Machine_workOnStack_68 rfl rfl ?_
    refine go_get (v := vr (o + 183)) X f_Machine_19 h.2.2.1.1 rfl d_Machine_workOnStack_69 (s_vref (show M (o + 225) 2 = o + 183 from h.2.2.1.2.2.1.2.2.1) (by omega)) ?_
    refine go_lload_n X d_Machine_workOnStack_72 rfl rfl ?_
    refine go_l2i X d_Machine_workOnStack_73 ?_
    refine go_top (v' := vi (wi32 x)) X (wi32_vi _) ?_
    refine go_cV (st2 := []) (r := []) X k_Machine_130 (x_giveNumber l D h (q := wi32 x) (wi32_rng _)) h.2.1.1 rfl rfl (by omega) (Nat.le_of_ble_eq_true rfl) d_Machine_workOnStack_74 (by omega) (by omega) (fun v' sh' M2 sz' hpp => ?_)
    obtain ⟨e1, e2, e3, rd3, fr4⟩ := hpp
    subst e1
    rw [e2, e3]
    clear e2 e3
    show Go g 0 0 sh M2 sz 77 [(0, vr (o + 225)), (1, vi op), (2, vl x)] []
    refine go_goto (tgt := 348) X d_Machine_workOnStack_77 rfl ?_
    refine go_vret X d_Machine_workOnStack_348 rfl (by omega) (by omega) ?_
    have hT : wsk hd ns s.2.1.2 op x s.1 = sG (0, wi32 x, []) s.1 := (if_pos (by omega))
    unfold wkS
    rw [hT]
    exact ⟨rfl, rfl, rfl, ⟨T1, T2, T3, U1, U2, rd3⟩, fr4⟩
  · skip
    refine go_tabIn (off := 79) (tgt := 80) X d_Machine_workOnStack_1 (by omega) (by omega) (by omega) (by rw [ht1]; rfl) rfl ?_
    refine go_aload_n X d_Machine_workOnStack_80 rfl rfl ?_
    refine go_get (v := vr (o + 183)) X f_Machine_19 h.2.2.1.1 rfl d_Machine_workOnStack_81 (s_vref (show M (o + 225) 2 = o + 183 from h.2.2.1.2.2.1.2.2.1) (by omega)) ?_
    refine go_aload_n X d_Machine_workOnStack_84 rfl rfl ?_
    refine go_lload_n X d_Machine_workOnStack_85 rfl rfl ?_
    refine go_cV (st2 := []) (r := [vr (o + 183)]) X k_Machine_133 (x_textOf l D h hxr) h.2.2.1.1 rfl rfl (by omega) (Nat.le_of_ble_eq_true rfl) d_Machine_workOnStack_86 (by omega) (by omega) (fun v' sh' M6 sz' hpp => ?_)
    obtain ⟨e1, e2, e3, rd7, fr8⟩ := hpp
    subst e1
    rw [e2, e3]
    clear e2 e3
    show Go g 0 0 sh M6 sz 89 [(0, vr (o + 225)), (1, vi op), (2, vl x)] [vr (o + 239), vr (o + 183)]
    refine go_cV (st2 := []) (r := []) X k_Machine_137 (x_giveText3 l D rd7 ) rd7.2.1.1 rfl rfl (by omega) (Nat.le_of_ble_eq_true rfl) d_Machine_workOnStack_89 (by omega) (by omega) (fun v' sh' M10 sz' hpp => ?_)
    obtain ⟨e1, e2, e3, rd11, fr12⟩ := hpp
    subst e1
    rw [e2, e3]
    clear e2 e3
    show Go g 0 0 sh M10 sz 92 [(0, vr (o + 225)), (1, vi op), (2, vl x)] []
    have fr13 : fr (fun z => z = o + 1 ∨ (o + 2 ≤ z ∧ z < o + 157) ∨ (o + 183 ≤ z ∧ z ≤ o + 246)) M M10 := fun z hz => (fr12 z hz).trans (fr8 z hz)
    refine go_goto (tgt := 348) X d_Machine_workOnStack_92 rfl ?_
    refine go_vret X d_Machine_workOnStack_348 rfl (by omega) (by omega) ?_
    have hT : wsk hd ns s.2.1.2 op x s.1 = sG (1, 0, uof (u64 x)) s.1 := (if_neg (by omega)).trans ((if_pos (by omega)))
    unfold wkS
    rw [hT]
    exact ⟨rfl, rfl, rfl, ⟨T1, T2, uof (u64 x), U1, U2, rd11⟩, fr13⟩
  · skip
    refine go_tabIn (off := 94) (tgt := 95) X d_Machine_workOnStack_1 (by omega) (by omega) (by omega) (by rw [ht1]; rfl) rfl ?_
    refine go_aload_n X d_Machine_workOnStack_95 rfl rfl ?_
    refine go_get (v := vr (o + 183)) X f_Machine_19 h.2.2.1.1 rfl d_Machine_workOnStack_96 (s_vref (show M (o + 225) 2 = o + 183 from h.2.2.1.2.2.1.2.2.1) (by omega)) ?_
    refine go_aload_n X d_Machine_workOnStack_99 rfl rfl ?_
    refine go_lload_n X d_Machine_workOnStack_100 rfl rfl ?_
    refine go_top (v' := vl (u64 x)) X (u64_vl _) ?_
    refine go_cSf (st2 := [vl (wof (u64 x)), vr (o + 225), vr (o + 183)]) (r := [vr (o + 225), vr (o + 183)]) X k_Machine_141 (c_wordOf l D (u64_rng _)) rfl rfl (by omega) (Nat.le_of_ble_eq_true rfl) d_Machine_workOnStack_101 (by omega) (by omega) rfl ?_
    have hwr := wof_rng (u64 x)
    refine go_cVf (st2 := (faq o hd ns (s.2.1.2) (wof (u64 x)) :: [vr (o + 183)])) (r := [vr (o + 183)]) X k_Machine_145 (c_fieldAtHand l D h ⟨by omega, by omega⟩ hhd) h.2.2.1.1 rfl rfl (by omega) (Nat.le_of_ble_eq_true rfl) d_Machine_workOnStack_104 (by omega) (by omega) rfl ?_
    by_cases hfa : 0 ≤ hd ∧ 0 ≤ (fo (s.2.1.2) ns hd (wof (u64 x))).2
    · skip
      have hfr := fo_rng (v := (wof (u64 x))) (h.2.2.2.2.2.2.2.2.2.1) (j := hd) (by omega)
      refine go_top (v' := vr (o + 2 + 2 + 17 * (fo (s.2.1.2) ns hd (wof (u64 x))).1 + 2 + 1 + 2 * (fo (s.2.1.2) ns hd (wof (u64 x))).2)) X (if_pos hfa) ?_
      refine go_cV (st2 := []) (r := []) X k_Machine_137 (x_giveTextF l D h (j := (fo (s.2.1.2) ns hd (wof (u64 x))).1) (i := (fo (s.2.1.2) ns hd (wof (u64 x))).2) hfr.1 ⟨hfa.2, hfr.2⟩) h.2.1.1 rfl rfl (by omega) (Nat.le_of_ble_eq_true rfl) d_Machine_workOnStack_107 (by omega) (by omega) (fun v' sh' M14 sz' hpp => ?_)
      obtain ⟨e1, e2, e3, rd15, fr16⟩ := hpp
      subst e1
      rw [e2, e3]
      clear e2 e3
      show Go g 0 0 sh M14 sz 110 [(0, vr (o + 225)), (1, vi op), (2, vl x)] []
      refine go_goto (tgt := 348) X d_Machine_workOnStack_110 rfl ?_
      refine go_vret X d_Machine_workOnStack_348 rfl (by omega) (by omega) ?_
      have hT : wsk hd ns s.2.1.2 op x s.1 = sG (fdv hd ns s.2.1.2 (wof (u64 x))) s.1 := (if_neg (by omega)).trans ((if_neg (by omega)).trans ((if_pos (by omega))))
      have hD : fdv hd ns s.2.1.2 (wof (u64 x)) = (1, 0, (s.2.1.2 (fo s.2.1.2 ns hd (wof (u64 x))).1).2.2.1 (fo s.2.1.2 ns hd (wof (u64 x))).2) := if_pos hfa
      rw [hD] at hT
      unfold wkS
      rw [hT]
      exact ⟨rfl, rfl, rfl, ⟨T1, T2, T3, U1, U2, rd15⟩, fr16⟩
    · skip
      refine go_top (v' := .null) X (if_neg hfa) ?_
      refine go_cV (st2 := []) (r := []) X k_Machine_137 (x_giveTextN l D h ) h.2.1.1 rfl rfl (by omega) (Nat.le_of_ble_eq_true rfl) d_Machine_workOnStack_107 (by omega) (by omega) (fun v' sh' M18 sz' hpp => ?_)
      obtain ⟨e1, e2, e3, rd19, fr20⟩ := hpp
      subst e1
      rw [e2, e3]
      clear e2 e3
      show Go g 0 0 sh M18 sz 110 [(0, vr (o + 225)), (1, vi op), (2, vl x)] []
      refine go_goto (tgt := 348) X d_Machine_workOnStack_110 rfl ?_
      refine go_vret X d_Machine_workOnStack_348 rfl (by omega) (by omega) ?_
      have hT : wsk hd ns s.2.1.2 op x s.1 = sG (fdv hd ns s.2.1.2 (wof (u64 x))) s.1 := (if_neg (by omega)).trans ((if_neg (by omega)).trans ((if_pos (by omega))))
      have hD : fdv hd ns s.2.1.2 (wof (u64 x)) = (2, 0, []) := if_neg hfa
      rw [hD] at hT
      unfold wkS
      rw [hT]
      exact ⟨rfl, rfl, rfl, ⟨T1, T2, T3, U1, U2, rd19⟩, fr20⟩
  · skip
    refine go_tabIn (off := 335) (tgt := 336) X d_Machine_workOnStack_1 (by omega) (by omega) (by omega) (by rw [ht1]; rfl) rfl ?_
    refine go_aload_n X d_Machine_workOnStack_336 rfl rfl ?_
    refine go_get (v := vr (o + 183)) X f_Machine_19 h.2.2.1.1 rfl d_Machine_workOnStack_337 (s_vref (show M (o + 225) 2 = o + 183 from h.2.2.1.2.2.1.2.2.1) (by omega)) ?_
    refine go_aload_n X d_Machine_workOnStack_340 rfl rfl ?_
    refine go_iload_n X d_Machine_workOnStack_341 rfl rfl ?_
    have hk0 := qn_rng h.2.1
    refine go_cV (st2 := []) (r := [vr (o + 183)]) X k_Machine_177 (x_reckon l D h (op := op) ⟨by omega, by omega⟩) h.2.2.1.1 rfl rfl (by omega) (Nat.le_of_ble_eq_true rfl) d_Machine_workOnStack_342 (by omega) (by omega) (fun v' sh' M22 sz' hpp => ?_)
    obtain ⟨e1, e2, e3, rd23, fr24⟩ := hpp
    subst e1
    rw [e2, e3]
    clear e2 e3
    show Go g 0 0 sh M22 sz 345 [(0, vr (o + 225)), (1, vi op), (2, vl x)] [vi (rck op (qn (pn (s.1.2.1)) (s.1.2.2)) (qn (s.1.2.1) (s.1.2.2))), vr (o + 183)]
    have hk9 : -2147483648 ≤ rck op (qn (pn (s.1.2.1)) (s.1.2.2)) (qn (s.1.2.1) (s.1.2.2)) ∧ rck op (qn (pn (s.1.2.1)) (s.1.2.2)) (qn (s.1.2.1) (s.1.2.2)) < 2147483648 := rck_rng _ _ _
    refine go_cV (st2 := []) (r := []) X k_Machine_130 (x_giveNumber l D rd23 (q := rck op (qn (pn (s.1.2.1)) (s.1.2.2)) (qn (s.1.2.1) (s.1.2.2))) hk9) rd23.2.1.1 rfl rfl (by omega) (Nat.le_of_ble_eq_true rfl) d_Machine_workOnStack_345 (by omega) (by omega) (fun v' sh' M26 sz' hpp => ?_)
    obtain ⟨e1, e2, e3, rd27, fr28⟩ := hpp
    subst e1
    rw [e2, e3]
    clear e2 e3
    show Go g 0 0 sh M26 sz 348 [(0, vr (o + 225)), (1, vi op), (2, vl x)] []
    have fr29 : fr (fun z => z = o + 1 ∨ (o + 2 ≤ z ∧ z < o + 157) ∨ (o + 183 ≤ z ∧ z ≤ o + 246)) M M26 := fun z hz => (fr28 z hz).trans (fr24 z hz)
    refine go_vret X d_Machine_workOnStack_348 rfl (by omega) (by omega) ?_
    have hT : wsk hd ns s.2.1.2 op x s.1 = sG (0, rck op (vN (sTN s.1)) (vN s.1), []) (sTN (sTN s.1)) := (if_neg (by omega)).trans ((if_neg (by omega)).trans ((if_neg (by omega)).trans ((if_neg (by omega)).trans ((if_neg (by omega)).trans ((if_neg (by omega)).trans ((if_neg (by omega)).trans ((if_neg (by omega)).trans ((if_neg (by omega))))))))))
    unfold wkS
    rw [hT]
    exact ⟨rfl, rfl, rfl, ⟨T1, T2, T3, U1, U2, rd27⟩, fr29⟩
  · skip
    refine go_tabIn (off := 335) (tgt := 336) X d_Machine_workOnStack_1 (by omega) (by omega) (by omega) (by rw [ht1]; rfl) rfl ?_
    refine go_aload_n X d_Machine_workOnStack_336 rfl rfl ?_
    refine go_get (v := vr (o + 183)) X f_Machine_19 h.2.2.1.1 rfl d_Machine_workOnStack_337 (s_vref (show M (o + 225) 2 = o + 183 from h.2.2.1.2.2.1.2.2.1) (by omega)) ?_
    refine go_aload_n X d_Machine_workOnStack_340 rfl rfl ?_
    refine go_iload_n X d_Machine_workOnStack_341 rfl rfl ?_
    have hk0 := qn_rng h.2.1
    refine go_cV (st2 := []) (r := [vr (o + 183)]) X k_Machine_177 (x_reckon l D h (op := op) ⟨by omega, by omega⟩) h.2.2.1.1 rfl rfl (by omega) (Nat.le_of_ble_eq_true rfl) d_Machine_workOnStack_342 (by omega) (by omega) (fun v' sh' M30 sz' hpp => ?_)
    obtain ⟨e1, e2, e3, rd31, fr32⟩ := hpp
    subst e1
    rw [e2, e3]
    clear e2 e3
    show Go g 0 0 sh M30 sz 345 [(0, vr (o + 225)), (1, vi op), (2, vl x)] [vi (rck op (qn (pn (s.1.2.1)) (s.1.2.2)) (qn (s.1.2.1) (s.1.2.2))), vr (o + 183)]
    have hk9 : -2147483648 ≤ rck op (qn (pn (s.1.2.1)) (s.1.2.2)) (qn (s.1.2.1) (s.1.2.2)) ∧ rck op (qn (pn (s.1.2.1)) (s.1.2.2)) (qn (s.1.2.1) (s.1.2.2)) < 2147483648 := rck_rng _ _ _
    refine go_cV (st2 := []) (r := []) X k_Machine_130 (x_giveNumber l D rd31 (q := rck op (qn (pn (s.1.2.1)) (s.1.2.2)) (qn (s.1.2.1) (s.1.2.2))) hk9) rd31.2.1.1 rfl rfl (by omega) (Nat.le_of_ble_eq_true rfl) d_Machine_workOnStack_345 (by omega) (by omega) (fun v' sh' M34 sz' hpp => ?_)
    obtain ⟨e1, e2, e3, rd35, fr36⟩ := hpp
    subst e1
    rw [e2, e3]
    clear e2 e3
    show Go g 0 0 sh M34 sz 348 [(0, vr (o + 225)), (1, vi op), (2, vl x)] []
    have fr37 : fr (fun z => z = o + 1 ∨ (o + 2 ≤ z ∧ z < o + 157) ∨ (o + 183 ≤ z ∧ z ≤ o + 246)) M M34 := fun z hz => (fr36 z hz).trans (fr32 z hz)
    refine go_vret X d_Machine_workOnStack_348 rfl (by omega) (by omega) ?_
    have hT : wsk hd ns s.2.1.2 op x s.1 = sG (0, rck op (vN (sTN s.1)) (vN s.1), []) (sTN (sTN s.1)) := (if_neg (by omega)).trans ((if_neg (by omega)).trans ((if_neg (by omega)).trans ((if_neg (by omega)).trans ((if_neg (by omega)).trans ((if_neg (by omega)).trans ((if_neg (by omega)).trans ((if_neg (by omega)).trans ((if_neg (by omega))))))))))
    unfold wkS
    rw [hT]
    exact ⟨rfl, rfl, rfl, ⟨T1, T2, T3, U1, U2, rd35⟩, fr37⟩
  · skip
    refine go_tabIn (off := 335) (tgt := 336) X d_Machine_workOnStack_1 (by omega) (by omega) (by omega) (by rw [ht1]; rfl) rfl ?_
    refine go_aload_n X d_Machine_workOnStack_336 rfl rfl ?_
    refine go_get (v := vr (o + 183)) X f_Machine_19 h.2.2.1.1 rfl d_Machine_workOnStack_337 (s_vref (show M (o + 225) 2 = o + 183 from h.2.2.1.2.2.1.2.2.1) (by omega)) ?_
    refine go_aload_n X d_Machine_workOnStack_340 rfl rfl ?_
    refine go_iload_n X d_Machine_workOnStack_341 rfl rfl ?_
    have hk0 := qn_rng h.2.1
    refine go_cV (st2 := []) (r := [vr (o + 183)]) X k_Machine_177 (x_reckon l D h (op := op) ⟨by omega, by omega⟩) h.2.2.1.1 rfl rfl (by omega) (Nat.le_of_ble_eq_true rfl) d_Machine_workOnStack_342 (by omega) (by omega) (fun v' sh' M38 sz' hpp => ?_)
    obtain ⟨e1, e2, e3, rd39, fr40⟩ := hpp
    subst e1
    rw [e2, e3]
    clear e2 e3
    show Go g 0 0 sh M38 sz 345 [(0, vr (o + 225)), (1, vi op), (2, vl x)] [vi (rck op (qn (pn (s.1.2.1)) (s.1.2.2)) (qn (s.1.2.1) (s.1.2.2))), vr (o + 183)]
    have hk9 : -2147483648 ≤ rck op (qn (pn (s.1.2.1)) (s.1.2.2)) (qn (s.1.2.1) (s.1.2.2)) ∧ rck op (qn (pn (s.1.2.1)) (s.1.2.2)) (qn (s.1.2.1) (s.1.2.2)) < 2147483648 := rck_rng _ _ _
    refine go_cV (st2 := []) (r := []) X k_Machine_130 (x_giveNumber l D rd39 (q := rck op (qn (pn (s.1.2.1)) (s.1.2.2)) (qn (s.1.2.1) (s.1.2.2))) hk9) rd39.2.1.1 rfl rfl (by omega) (Nat.le_of_ble_eq_true rfl) d_Machine_workOnStack_345 (by omega) (by omega) (fun v' sh' M42 sz' hpp => ?_)
    obtain ⟨e1, e2, e3, rd43, fr44⟩ := hpp
    subst e1
    rw [e2, e3]
    clear e2 e3
    show Go g 0 0 sh M42 sz 348 [(0, vr (o + 225)), (1, vi op), (2, vl x)] []
    have fr45 : fr (fun z => z = o + 1 ∨ (o + 2 ≤ z ∧ z < o + 157) ∨ (o + 183 ≤ z ∧ z ≤ o + 246)) M M42 := fun z hz => (fr44 z hz).trans (fr40 z hz)
    refine go_vret X d_Machine_workOnStack_348 rfl (by omega) (by omega) ?_
    have hT : wsk hd ns s.2.1.2 op x s.1 = sG (0, rck op (vN (sTN s.1)) (vN s.1), []) (sTN (sTN s.1)) := (if_neg (by omega)).trans ((if_neg (by omega)).trans ((if_neg (by omega)).trans ((if_neg (by omega)).trans ((if_neg (by omega)).trans ((if_neg (by omega)).trans ((if_neg (by omega)).trans ((if_neg (by omega)).trans ((if_neg (by omega))))))))))
    unfold wkS
    rw [hT]
    exact ⟨rfl, rfl, rfl, ⟨T1, T2, T3, U1, U2, rd43⟩, fr45⟩
  · skip
    refine go_tabIn (off := 335) (tgt := 336) X d_Machine_workOnStack_1 (by omega) (by omega) (by omega) (by rw [ht1]; rfl) rfl ?_
    refine go_aload_n X d_Machine_workOnStack_336 rfl rfl ?_
    refine go_get (v := vr (o + 183)) X f_Machine_19 h.2.2.1.1 rfl d_Machine_workOnStack_337 (s_vref (show M (o + 225) 2 = o + 183 from h.2.2.1.2.2.1.2.2.1) (by omega)) ?_
    refine go_aload_n X d_Machine_workOnStack_340 rfl rfl ?_
    refine go_iload_n X d_Machine_workOnStack_341 rfl rfl ?_
    have hk0 := qn_rng h.2.1
    refine go_cV (st2 := []) (r := [vr (o + 183)]) X k_Machine_177 (x_reckon l D h (op := op) ⟨by omega, by omega⟩) h.2.2.1.1 rfl rfl (by omega) (Nat.le_of_ble_eq_true rfl) d_Machine_workOnStack_342 (by omega) (by omega) (fun v' sh' M46 sz' hpp => ?_)
    obtain ⟨e1, e2, e3, rd47, fr48⟩ := hpp
    subst e1
    rw [e2, e3]
    clear e2 e3
    show Go g 0 0 sh M46 sz 345 [(0, vr (o + 225)), (1, vi op), (2, vl x)] [vi (rck op (qn (pn (s.1.2.1)) (s.1.2.2)) (qn (s.1.2.1) (s.1.2.2))), vr (o + 183)]
    have hk9 : -2147483648 ≤ rck op (qn (pn (s.1.2.1)) (s.1.2.2)) (qn (s.1.2.1) (s.1.2.2)) ∧ rck op (qn (pn (s.1.2.1)) (s.1.2.2)) (qn (s.1.2.1) (s.1.2.2)) < 2147483648 := rck_rng _ _ _
    refine go_cV (st2 := []) (r := []) X k_Machine_130 (x_giveNumber l D rd47 (q := rck op (qn (pn (s.1.2.1)) (s.1.2.2)) (qn (s.1.2.1) (s.1.2.2))) hk9) rd47.2.1.1 rfl rfl (by omega) (Nat.le_of_ble_eq_true rfl) d_Machine_workOnStack_345 (by omega) (by omega) (fun v' sh' M50 sz' hpp => ?_)
    obtain ⟨e1, e2, e3, rd51, fr52⟩ := hpp
    subst e1
    rw [e2, e3]
    clear e2 e3
    show Go g 0 0 sh M50 sz 348 [(0, vr (o + 225)), (1, vi op), (2, vl x)] []
    have fr53 : fr (fun z => z = o + 1 ∨ (o + 2 ≤ z ∧ z < o + 157) ∨ (o + 183 ≤ z ∧ z ≤ o + 246)) M M50 := fun z hz => (fr52 z hz).trans (fr48 z hz)
    refine go_vret X d_Machine_workOnStack_348 rfl (by omega) (by omega) ?_
    have hT : wsk hd ns s.2.1.2 op x s.1 = sG (0, rck op (vN (sTN s.1)) (vN s.1), []) (sTN (sTN s.1)) := (if_neg (by omega)).trans ((if_neg (by omega)).trans ((if_neg (by omega)).trans ((if_neg (by omega)).trans ((if_neg (by omega)).trans ((if_neg (by omega)).trans ((if_neg (by omega)).trans ((if_neg (by omega)).trans ((if_neg (by omega))))))))))
    unfold wkS
    rw [hT]
    exact ⟨rfl, rfl, rfl, ⟨T1, T2, T3, U1, U2, rd51⟩, fr53⟩
  · skip
    refine go_tabIn (off := 112) (tgt := 113) X d_Machine_workOnStack_1 (by omega) (by omega) (by omega) (by rw [ht1]; rfl) rfl ?_
    refine go_aload_n X d_Machine_workOnStack_113 rfl rfl ?_
    refine go_get (v := vr (o + 183)) X f_Machine_19 h.2.2.1.1 rfl d_Machine_workOnStack_114 (s_vref (show M (o + 225) 2 = o + 183 from h.2.2.1.2.2.1.2.2.1) (by omega)) ?_
    refine go_aload_n X d_Machine_workOnStack_117 rfl rfl ?_
    refine go_get (v := vr (o + 244)) X f_Machine_73 h.2.2.1.1 rfl d_Machine_workOnStack_118 (s_vref (show M (o + 225) 14 = o + 244 from h.2.2.1.2.2.2.1.2.2.2.2.2.2.2.2.2.trans (by omega)) (by omega)) ?_
    refine go_cV (st2 := []) (r := []) X k_Machine_148 (x_takeAny2 l D h ) h.2.1.1 rfl rfl (by omega) (Nat.le_of_ble_eq_true rfl) d_Machine_workOnStack_121 (by omega) (by omega) (fun v' sh' M54 sz' hpp => ?_)
    obtain ⟨e1, e2, e3, rd55, fr56⟩ := hpp
    subst e1
    rw [e2, e3]
    clear e2 e3
    show Go g 0 0 sh M54 sz 124 [(0, vr (o + 225)), (1, vi op), (2, vl x)] []
    refine go_aload_n X d_Machine_workOnStack_124 rfl rfl ?_
    refine go_get (v := vr (o + 183)) X f_Machine_19 rd55.2.2.1.1 rfl d_Machine_workOnStack_125 (s_vref (show M54 (o + 225) 2 = o + 183 from rd55.2.2.1.2.2.1.2.2.1) (by omega)) ?_
    refine go_aload_n X d_Machine_workOnStack_128 rfl rfl ?_
    refine go_get (v := vr (o + 241)) X f_Machine_69 rd55.2.2.1.1 rfl d_Machine_workOnStack_129 (s_vref (show M54 (o + 225) 13 = o + 241 from rd55.2.2.1.2.2.2.1.2.2.2.2.2.2.2.2.1.trans (by omega)) (by omega)) ?_
    refine go_cV (st2 := []) (r := []) X k_Machine_148 (x_takeAny1 l D rd55 ) rd55.2.1.1 rfl rfl (by omega) (Nat.le_of_ble_eq_true rfl) d_Machine_workOnStack_132 (by omega) (by omega) (fun v' sh' M58 sz' hpp => ?_)
    obtain ⟨e1, e2, e3, rd59, fr60⟩ := hpp
    subst e1
    rw [e2, e3]
    clear e2 e3
    show Go g 0 0 sh M58 sz 135 [(0, vr (o + 225)), (1, vi op), (2, vl x)] []
    have fr61 : fr (fun z => z = o + 1 ∨ (o + 2 ≤ z ∧ z < o + 157) ∨ (o + 183 ≤ z ∧ z ≤ o + 246)) M M58 := fun z hz => (fr60 z hz).trans (fr56 z hz)
    refine go_aload_n X d_Machine_workOnStack_135 rfl rfl ?_
    refine go_get (v := vr (o + 183)) X f_Machine_19 rd59.2.2.1.1 rfl d_Machine_workOnStack_136 (s_vref (show M58 (o + 225) 2 = o + 183 from rd59.2.2.1.2.2.1.2.2.1) (by omega)) ?_
    refine go_aload_n X d_Machine_workOnStack_139 rfl rfl ?_
    refine go_get (v := vr (o + 241)) X f_Machine_69 rd59.2.2.1.1 rfl d_Machine_workOnStack_140 (s_vref (show M58 (o + 225) 13 = o + 241 from rd59.2.2.1.2.2.2.1.2.2.2.2.2.2.2.2.1.trans (by omega)) (by omega)) ?_
    refine go_aload_n X d_Machine_workOnStack_143 rfl rfl ?_
    refine go_get (v := vr (o + 244)) X f_Machine_73 rd59.2.2.1.1 rfl d_Machine_workOnStack_144 (s_vref (show M58 (o + 225) 14 = o + 244 from rd59.2.2.1.2.2.2.1.2.2.2.2.2.2.2.2.2.trans (by omega)) (by omega)) ?_
    refine go_cVf (st2 := [vi (s_b (smA (pv (pn (s.1.2.1)) (s.1.2.2)) (pv (s.1.2.1) (s.1.2.2)))), vr (o + 183)]) (r := [vr (o + 183)]) X k_Machine_152 (c_Value_sameAs l D rd59.2.2.2.2.2.2.1 rd59.2.2.2.2.2.2.2.1) rd59.2.2.2.2.2.2.1.1 rfl rfl (by omega) (Nat.le_of_ble_eq_true rfl) d_Machine_workOnStack_147 (by omega) (by omega) rfl ?_
    refine go_cV (st2 := []) (r := []) X k_Machine_156 (x_giveTruth l D rd59 (b := (smA (pv (pn (s.1.2.1)) (s.1.2.2)) (pv (s.1.2.1) (s.1.2.2))))) rd59.2.1.1 rfl rfl (by omega) (Nat.le_of_ble_eq_true rfl) d_Machine_workOnStack_150 (by omega) (by omega) (fun v' sh' M62 sz' hpp => ?_)
    obtain ⟨e1, e2, e3, rd63, fr64⟩ := hpp
    subst e1
    rw [e2, e3]
    clear e2 e3
    show Go g 0 0 sh M62 sz 153 [(0, vr (o + 225)), (1, vi op), (2, vl x)] []
    have fr65 : fr (fun z => z = o + 1 ∨ (o + 2 ≤ z ∧ z < o + 157) ∨ (o + 183 ≤ z ∧ z ≤ o + 246)) M M62 := fun z hz => (fr64 z hz).trans (fr61 z hz)
    refine go_goto (tgt := 348) X d_Machine_workOnStack_153 rfl ?_
    refine go_vret X d_Machine_workOnStack_348 rfl (by omega) (by omega) ?_
    have hT : wsk hd ns s.2.1.2 op x s.1 = sG (0, s_b (smA (vA (sTA s.1)) (vA s.1)), []) (sTA (sTA s.1)) := (if_neg (by omega)).trans ((if_neg (by omega)).trans ((if_neg (by omega)).trans ((if_pos (by omega)))))
    unfold wkS
    rw [hT]
    exact ⟨rfl, rfl, rfl, ⟨T1, T2, T3, pv (pn (s.1.2.1)) (s.1.2.2), pv (s.1.2.1) (s.1.2.2), rd63⟩, fr65⟩
  · skip
    refine go_tabIn (off := 155) (tgt := 156) X d_Machine_workOnStack_1 (by omega) (by omega) (by omega) (by rw [ht1]; rfl) rfl ?_
    refine go_aload_n X d_Machine_workOnStack_156 rfl rfl ?_
    refine go_get (v := vr (o + 183)) X f_Machine_19 h.2.2.1.1 rfl d_Machine_workOnStack_157 (s_vref (show M (o + 225) 2 = o + 183 from h.2.2.1.2.2.1.2.2.1) (by omega)) ?_
    refine go_aload_n X d_Machine_workOnStack_160 rfl rfl ?_
    refine go_get (v := vr (o + 237)) X f_Machine_60 h.2.2.1.1 rfl d_Machine_workOnStack_161 (s_vref (show M (o + 225) 11 = o + 237 from h.2.2.1.2.2.2.1.2.2.2.2.2.2.1.trans (by omega)) (by omega)) ?_
    refine go_cV (st2 := []) (r := []) X k_Machine_160 (x_takeText2 l D h ) h.2.1.1 rfl rfl (by omega) (Nat.le_of_ble_eq_true rfl) d_Machine_workOnStack_164 (by omega) (by omega) (fun v' sh' M66 sz' hpp => ?_)
    obtain ⟨e1, e2, e3, rd67, fr68⟩ := hpp
    subst e1
    rw [e2, e3]
    clear e2 e3
    show Go g 0 0 sh M66 sz 167 [(0, vr (o + 225)), (1, vi op), (2, vl x)] []
    refine go_aload_n X d_Machine_workOnStack_167 rfl rfl ?_
    refine go_get (v := vr (o + 183)) X f_Machine_19 rd67.2.2.1.1 rfl d_Machine_workOnStack_168 (s_vref (show M66 (o + 225) 2 = o + 183 from rd67.2.2.1.2.2.1.2.2.1) (by omega)) ?_
    refine go_aload_n X d_Machine_workOnStack_171 rfl rfl ?_
    refine go_get (v := vr (o + 235)) X f_Machine_56 rd67.2.2.1.1 rfl d_Machine_workOnStack_172 (s_vref (show M66 (o + 225) 10 = o + 235 from rd67.2.2.1.2.2.2.1.2.2.2.2.2.1.trans (by omega)) (by omega)) ?_
    refine go_cV (st2 := []) (r := []) X k_Machine_160 (x_takeText1 l D rd67 ) rd67.2.1.1 rfl rfl (by omega) (Nat.le_of_ble_eq_true rfl) d_Machine_workOnStack_175 (by omega) (by omega) (fun v' sh' M70 sz' hpp => ?_)
    obtain ⟨e1, e2, e3, rd71, fr72⟩ := hpp
    subst e1
    rw [e2, e3]
    clear e2 e3
    show Go g 0 0 sh M70 sz 178 [(0, vr (o + 225)), (1, vi op), (2, vl x)] []
    have fr73 : fr (fun z => z = o + 1 ∨ (o + 2 ≤ z ∧ z < o + 157) ∨ (o + 183 ≤ z ∧ z ≤ o + 246)) M M70 := fun z hz => (fr72 z hz).trans (fr68 z hz)
    refine go_aload_n X d_Machine_workOnStack_178 rfl rfl ?_
    refine go_get (v := vr (o + 235)) X f_Machine_56 rd71.2.2.1.1 rfl d_Machine_workOnStack_179 (s_vref (show M70 (o + 225) 10 = o + 235 from rd71.2.2.1.2.2.2.1.2.2.2.2.2.1.trans (by omega)) (by omega)) ?_
    refine go_aload_n X d_Machine_workOnStack_182 rfl rfl ?_
    refine go_get (v := vr (o + 237)) X f_Machine_60 rd71.2.2.1.1 rfl d_Machine_workOnStack_183 (s_vref (show M70 (o + 225) 11 = o + 237 from rd71.2.2.1.2.2.2.1.2.2.2.2.2.2.1.trans (by omega)) (by omega)) ?_
    refine go_iconst (v := 0) X d_Machine_workOnStack_186 ?_
    refine go_aload_n X d_Machine_workOnStack_187 rfl rfl ?_
    refine go_get (v := vr (o + 237)) X f_Machine_60 rd71.2.2.1.1 rfl d_Machine_workOnStack_188 (s_vref (show M70 (o + 225) 11 = o + 237 from rd71.2.2.1.2.2.2.1.2.2.2.2.2.2.1.trans (by omega)) (by omega)) ?_
    refine go_cVf (st2 := [vi ((qt (s.1.2.1) (s.1.2.2)).length : Int), vi 0, vr (o + 237), vr (o + 235)]) (r := [vi 0, vr (o + 237), vr (o + 235)]) X k_Machine_163 (k_Text_size l D rd71.2.2.2.2.1) rd71.2.2.2.2.1.1.1 rfl rfl (by omega) (Nat.le_of_ble_eq_true rfl) d_Machine_workOnStack_191 (by omega) (by omega) rfl ?_
    refine go_cV (st2 := []) (r := []) X k_Machine_166 (x_addPart l D rd71 ) rd71.2.2.2.1.1.1 rfl rfl (by omega) (Nat.le_of_ble_eq_true rfl) d_Machine_workOnStack_194 (by omega) (by omega) (fun v' sh' M74 sz' hpp => ?_)
    obtain ⟨e1, e2, e3, rd75, fr76⟩ := hpp
    subst e1
    rw [e2, e3]
    clear e2 e3
    show Go g 0 0 sh M74 sz 197 [(0, vr (o + 225)), (1, vi op), (2, vl x)] []
    have fr77 : fr (fun z => z = o + 1 ∨ (o + 2 ≤ z ∧ z < o + 157) ∨ (o + 183 ≤ z ∧ z ≤ o + 246)) M M74 := fun z hz => (fr76 z hz).trans (fr73 z hz)
    refine go_aload_n X d_Machine_workOnStack_197 rfl rfl ?_
    refine go_get (v := vr (o + 183)) X f_Machine_19 rd75.2.2.1.1 rfl d_Machine_workOnStack_198 (s_vref (show M74 (o + 225) 2 = o + 183 from rd75.2.2.1.2.2.1.2.2.1) (by omega)) ?_
    refine go_aload_n X d_Machine_workOnStack_201 rfl rfl ?_
    refine go_get (v := vr (o + 235)) X f_Machine_56 rd75.2.2.1.1 rfl d_Machine_workOnStack_202 (s_vref (show M74 (o + 225) 10 = o + 235 from rd75.2.2.1.2.2.2.1.2.2.2.2.2.1.trans (by omega)) (by omega)) ?_
    refine go_cV (st2 := []) (r := []) X k_Machine_137 (x_giveText1 l D rd75 ) rd75.2.1.1 rfl rfl (by omega) (Nat.le_of_ble_eq_true rfl) d_Machine_workOnStack_205 (by omega) (by omega) (fun v' sh' M78 sz' hpp => ?_)
    obtain ⟨e1, e2, e3, rd79, fr80⟩ := hpp
    subst e1
    rw [e2, e3]
    clear e2 e3
    show Go g 0 0 sh M78 sz 208 [(0, vr (o + 225)), (1, vi op), (2, vl x)] []
    have fr81 : fr (fun z => z = o + 1 ∨ (o + 2 ≤ z ∧ z < o + 157) ∨ (o + 183 ≤ z ∧ z ≤ o + 246)) M M78 := fun z hz => (fr80 z hz).trans (fr77 z hz)
    refine go_goto (tgt := 348) X d_Machine_workOnStack_208 rfl ?_
    refine go_vret X d_Machine_workOnStack_348 rfl (by omega) (by omega) ?_
    have hT : wsk hd ns s.2.1.2 op x s.1 = sG (1, 0, jnt (vT (sTT s.1)) (vT s.1)) (sTT (sTT s.1)) := (if_neg (by omega)).trans ((if_neg (by omega)).trans ((if_neg (by omega)).trans ((if_neg (by omega)).trans ((if_pos (by omega))))))
    unfold wkS
    rw [hT]
    exact ⟨rfl, rfl, rfl, ⟨jnt (qt (pn (s.1.2.1)) (s.1.2.2)) (qt (s.1.2.1) (s.1.2.2)), qt (s.1.2.1) (s.1.2.2), T3, U1, U2, rd79⟩, fr81⟩
  · skip
    refine go_tabIn (off := 210) (tgt := 211) X d_Machine_workOnStack_1 (by omega) (by omega) (by omega) (by rw [ht1]; rfl) rfl ?_
    refine go_aload_n X d_Machine_workOnStack_211 rfl rfl ?_
    refine go_get (v := vr (o + 183)) X f_Machine_19 h.2.2.1.1 rfl d_Machine_workOnStack_212 (s_vref (show M (o + 225) 2 = o + 183 from h.2.2.1.2.2.1.2.2.1) (by omega)) ?_
    refine go_aload_n X d_Machine_workOnStack_215 rfl rfl ?_
    refine go_get (v := vr (o + 241)) X f_Machine_69 h.2.2.1.1 rfl d_Machine_workOnStack_216 (s_vref (show M (o + 225) 13 = o + 241 from h.2.2.1.2.2.2.1.2.2.2.2.2.2.2.2.1.trans (by omega)) (by omega)) ?_
    refine go_cV (st2 := []) (r := []) X k_Machine_148 (x_takeAny1 l D h ) h.2.1.1 rfl rfl (by omega) (Nat.le_of_ble_eq_true rfl) d_Machine_workOnStack_219 (by omega) (by omega) (fun v' sh' M82 sz' hpp => ?_)
    obtain ⟨e1, e2, e3, rd83, fr84⟩ := hpp
    subst e1
    rw [e2, e3]
    clear e2 e3
    show Go g 0 0 sh M82 sz 222 [(0, vr (o + 225)), (1, vi op), (2, vl x)] []
    refine go_goto (tgt := 348) X d_Machine_workOnStack_222 rfl ?_
    refine go_vret X d_Machine_workOnStack_348 rfl (by omega) (by omega) ?_
    have hT : wsk hd ns s.2.1.2 op x s.1 = sTA s.1 := (if_neg (by omega)).trans ((if_neg (by omega)).trans ((if_neg (by omega)).trans ((if_neg (by omega)).trans ((if_neg (by omega)).trans ((if_pos (by omega)))))))
    unfold wkS
    rw [hT]
    exact ⟨rfl, rfl, rfl, ⟨T1, T2, T3, pv (s.1.2.1) (s.1.2.2), U2, rd83⟩, fr84⟩
  · skip
    refine go_tabIn (off := 224) (tgt := 225) X d_Machine_workOnStack_1 (by omega) (by omega) (by omega) (by rw [ht1]; rfl) rfl ?_
    refine go_aload_n X d_Machine_workOnStack_225 rfl rfl ?_
    refine go_get (v := vr (o + 183)) X f_Machine_19 h.2.2.1.1 rfl d_Machine_workOnStack_226 (s_vref (show M (o + 225) 2 = o + 183 from h.2.2.1.2.2.1.2.2.1) (by omega)) ?_
    refine go_aload_n X d_Machine_workOnStack_229 rfl rfl ?_
    refine go_get (v := vr (o + 241)) X f_Machine_69 h.2.2.1.1 rfl d_Machine_workOnStack_230 (s_vref (show M (o + 225) 13 = o + 241 from h.2.2.1.2.2.2.1.2.2.2.2.2.2.2.2.1.trans (by omega)) (by omega)) ?_
    refine go_cV (st2 := []) (r := []) X k_Machine_148 (x_takeAny1 l D h ) h.2.1.1 rfl rfl (by omega) (Nat.le_of_ble_eq_true rfl) d_Machine_workOnStack_233 (by omega) (by omega) (fun v' sh' M86 sz' hpp => ?_)
    obtain ⟨e1, e2, e3, rd87, fr88⟩ := hpp
    subst e1
    rw [e2, e3]
    clear e2 e3
    show Go g 0 0 sh M86 sz 236 [(0, vr (o + 225)), (1, vi op), (2, vl x)] []
    refine go_aload_n X d_Machine_workOnStack_236 rfl rfl ?_
    refine go_get (v := vr (o + 183)) X f_Machine_19 rd87.2.2.1.1 rfl d_Machine_workOnStack_237 (s_vref (show M86 (o + 225) 2 = o + 183 from rd87.2.2.1.2.2.1.2.2.1) (by omega)) ?_
    refine go_aload_n X d_Machine_workOnStack_240 rfl rfl ?_
    refine go_get (v := vr (o + 241)) X f_Machine_69 rd87.2.2.1.1 rfl d_Machine_workOnStack_241 (s_vref (show M86 (o + 225) 13 = o + 241 from rd87.2.2.1.2.2.2.1.2.2.2.2.2.2.2.2.1.trans (by omega)) (by omega)) ?_
    refine go_cV (st2 := []) (r := []) X k_Machine_170 (x_giveAny1 l D rd87 ) rd87.2.1.1 rfl rfl (by omega) (Nat.le_of_ble_eq_true rfl) d_Machine_workOnStack_244 (by omega) (by omega) (fun v' sh' M90 sz' hpp => ?_)
    obtain ⟨e1, e2, e3, rd91, fr92⟩ := hpp
    subst e1
    rw [e2, e3]
    clear e2 e3
    show Go g 0 0 sh M90 sz 247 [(0, vr (o + 225)), (1, vi op), (2, vl x)] []
    have fr93 : fr (fun z => z = o + 1 ∨ (o + 2 ≤ z ∧ z < o + 157) ∨ (o + 183 ≤ z ∧ z ≤ o + 246)) M M90 := fun z hz => (fr92 z hz).trans (fr88 z hz)
    refine go_aload_n X d_Machine_workOnStack_247 rfl rfl ?_
    refine go_get (v := vr (o + 183)) X f_Machine_19 rd91.2.2.1.1 rfl d_Machine_workOnStack_248 (s_vref (show M90 (o + 225) 2 = o + 183 from rd91.2.2.1.2.2.1.2.2.1) (by omega)) ?_
    refine go_aload_n X d_Machine_workOnStack_251 rfl rfl ?_
    refine go_get (v := vr (o + 241)) X f_Machine_69 rd91.2.2.1.1 rfl d_Machine_workOnStack_252 (s_vref (show M90 (o + 225) 13 = o + 241 from rd91.2.2.1.2.2.2.1.2.2.2.2.2.2.2.2.1.trans (by omega)) (by omega)) ?_
    refine go_cV (st2 := []) (r := []) X k_Machine_170 (x_giveAny1 l D rd91 ) rd91.2.1.1 rfl rfl (by omega) (Nat.le_of_ble_eq_true rfl) d_Machine_workOnStack_255 (by omega) (by omega) (fun v' sh' M94 sz' hpp => ?_)
    obtain ⟨e1, e2, e3, rd95, fr96⟩ := hpp
    subst e1
    rw [e2, e3]
    clear e2 e3
    show Go g 0 0 sh M94 sz 258 [(0, vr (o + 225)), (1, vi op), (2, vl x)] []
    have fr97 : fr (fun z => z = o + 1 ∨ (o + 2 ≤ z ∧ z < o + 157) ∨ (o + 183 ≤ z ∧ z ≤ o + 246)) M M94 := fun z hz => (fr96 z hz).trans (fr93 z hz)
    refine go_goto (tgt := 348) X d_Machine_workOnStack_258 rfl ?_
    refine go_vret X d_Machine_workOnStack_348 rfl (by omega) (by omega) ?_
    have hT : wsk hd ns s.2.1.2 op x s.1 = sG (vA s.1) (sG (vA s.1) (sTA s.1)) := (if_neg (by omega)).trans ((if_neg (by omega)).trans ((if_neg (by omega)).trans ((if_neg (by omega)).trans ((if_neg (by omega)).trans ((if_neg (by omega)).trans ((if_pos (by omega))))))))
    unfold wkS
    rw [hT]
    exact ⟨rfl, rfl, rfl, ⟨T1, T2, T3, pv (s.1.2.1) (s.1.2.2), U2, rd95⟩, fr97⟩
  · skip
    refine go_tabIn (off := 260) (tgt := 261) X d_Machine_workOnStack_1 (by omega) (by omega) (by omega) (by rw [ht1]; rfl) rfl ?_
    refine go_aload_n X d_Machine_workOnStack_261 rfl rfl ?_
    refine go_get (v := vr (o + 183)) X f_Machine_19 h.2.2.1.1 rfl d_Machine_workOnStack_262 (s_vref (show M (o + 225) 2 = o + 183 from h.2.2.1.2.2.1.2.2.1) (by omega)) ?_
    refine go_aload_n X d_Machine_workOnStack_265 rfl rfl ?_
    refine go_get (v := vr (o + 244)) X f_Machine_73 h.2.2.1.1 rfl d_Machine_workOnStack_266 (s_vref (show M (o + 225) 14 = o + 244 from h.2.2.1.2.2.2.1.2.2.2.2.2.2.2.2.2.trans (by omega)) (by omega)) ?_
    refine go_cV (st2 := []) (r := []) X k_Machine_148 (x_takeAny2 l D h ) h.2.1.1 rfl rfl (by omega) (Nat.le_of_ble_eq_true rfl) d_Machine_workOnStack_269 (by omega) (by omega) (fun v' sh' M98 sz' hpp => ?_)
    obtain ⟨e1, e2, e3, rd99, fr100⟩ := hpp
    subst e1
    rw [e2, e3]
    clear e2 e3
    show Go g 0 0 sh M98 sz 272 [(0, vr (o + 225)), (1, vi op), (2, vl x)] []
    refine go_aload_n X d_Machine_workOnStack_272 rfl rfl ?_
    refine go_get (v := vr (o + 183)) X f_Machine_19 rd99.2.2.1.1 rfl d_Machine_workOnStack_273 (s_vref (show M98 (o + 225) 2 = o + 183 from rd99.2.2.1.2.2.1.2.2.1) (by omega)) ?_
    refine go_aload_n X d_Machine_workOnStack_276 rfl rfl ?_
    refine go_get (v := vr (o + 241)) X f_Machine_69 rd99.2.2.1.1 rfl d_Machine_workOnStack_277 (s_vref (show M98 (o + 225) 13 = o + 241 from rd99.2.2.1.2.2.2.1.2.2.2.2.2.2.2.2.1.trans (by omega)) (by omega)) ?_
    refine go_cV (st2 := []) (r := []) X k_Machine_148 (x_takeAny1 l D rd99 ) rd99.2.1.1 rfl rfl (by omega) (Nat.le_of_ble_eq_true rfl) d_Machine_workOnStack_280 (by omega) (by omega) (fun v' sh' M102 sz' hpp => ?_)
    obtain ⟨e1, e2, e3, rd103, fr104⟩ := hpp
    subst e1
    rw [e2, e3]
    clear e2 e3
    show Go g 0 0 sh M102 sz 283 [(0, vr (o + 225)), (1, vi op), (2, vl x)] []
    have fr105 : fr (fun z => z = o + 1 ∨ (o + 2 ≤ z ∧ z < o + 157) ∨ (o + 183 ≤ z ∧ z ≤ o + 246)) M M102 := fun z hz => (fr104 z hz).trans (fr100 z hz)
    refine go_aload_n X d_Machine_workOnStack_283 rfl rfl ?_
    refine go_get (v := vr (o + 183)) X f_Machine_19 rd103.2.2.1.1 rfl d_Machine_workOnStack_284 (s_vref (show M102 (o + 225) 2 = o + 183 from rd103.2.2.1.2.2.1.2.2.1) (by omega)) ?_
    refine go_aload_n X d_Machine_workOnStack_287 rfl rfl ?_
    refine go_get (v := vr (o + 244)) X f_Machine_73 rd103.2.2.1.1 rfl d_Machine_workOnStack_288 (s_vref (show M102 (o + 225) 14 = o + 244 from rd103.2.2.1.2.2.2.1.2.2.2.2.2.2.2.2.2.trans (by omega)) (by omega)) ?_
    refine go_cV (st2 := []) (r := []) X k_Machine_170 (x_giveAny2 l D rd103 ) rd103.2.1.1 rfl rfl (by omega) (Nat.le_of_ble_eq_true rfl) d_Machine_workOnStack_291 (by omega) (by omega) (fun v' sh' M106 sz' hpp => ?_)
    obtain ⟨e1, e2, e3, rd107, fr108⟩ := hpp
    subst e1
    rw [e2, e3]
    clear e2 e3
    show Go g 0 0 sh M106 sz 294 [(0, vr (o + 225)), (1, vi op), (2, vl x)] []
    have fr109 : fr (fun z => z = o + 1 ∨ (o + 2 ≤ z ∧ z < o + 157) ∨ (o + 183 ≤ z ∧ z ≤ o + 246)) M M106 := fun z hz => (fr108 z hz).trans (fr105 z hz)
    refine go_aload_n X d_Machine_workOnStack_294 rfl rfl ?_
    refine go_get (v := vr (o + 183)) X f_Machine_19 rd107.2.2.1.1 rfl d_Machine_workOnStack_295 (s_vref (show M106 (o + 225) 2 = o + 183 from rd107.2.2.1.2.2.1.2.2.1) (by omega)) ?_
    refine go_aload_n X d_Machine_workOnStack_298 rfl rfl ?_
    refine go_get (v := vr (o + 241)) X f_Machine_69 rd107.2.2.1.1 rfl d_Machine_workOnStack_299 (s_vref (show M106 (o + 225) 13 = o + 241 from rd107.2.2.1.2.2.2.1.2.2.2.2.2.2.2.2.1.trans (by omega)) (by omega)) ?_
    refine go_cV (st2 := []) (r := []) X k_Machine_170 (x_giveAny1 l D rd107 ) rd107.2.1.1 rfl rfl (by omega) (Nat.le_of_ble_eq_true rfl) d_Machine_workOnStack_302 (by omega) (by omega) (fun v' sh' M110 sz' hpp => ?_)
    obtain ⟨e1, e2, e3, rd111, fr112⟩ := hpp
    subst e1
    rw [e2, e3]
    clear e2 e3
    show Go g 0 0 sh M110 sz 305 [(0, vr (o + 225)), (1, vi op), (2, vl x)] []
    have fr113 : fr (fun z => z = o + 1 ∨ (o + 2 ≤ z ∧ z < o + 157) ∨ (o + 183 ≤ z ∧ z ≤ o + 246)) M M110 := fun z hz => (fr112 z hz).trans (fr109 z hz)
    refine go_goto (tgt := 348) X d_Machine_workOnStack_305 rfl ?_
    refine go_vret X d_Machine_workOnStack_348 rfl (by omega) (by omega) ?_
    have hT : wsk hd ns s.2.1.2 op x s.1 = sG (vA (sTA s.1)) (sG (vA s.1) (sTA (sTA s.1))) := (if_neg (by omega)).trans ((if_neg (by omega)).trans ((if_neg (by omega)).trans ((if_neg (by omega)).trans ((if_neg (by omega)).trans ((if_neg (by omega)).trans ((if_neg (by omega)).trans ((if_pos (by omega)))))))))
    unfold wkS
    rw [hT]
    exact ⟨rfl, rfl, rfl, ⟨T1, T2, T3, pv (pn (s.1.2.1)) (s.1.2.2), pv (s.1.2.1) (s.1.2.2), rd111⟩, fr113⟩
  · skip
    refine go_tabIn (off := 307) (tgt := 308) X d_Machine_workOnStack_1 (by omega) (by omega) (by omega) (by rw [ht1]; rfl) rfl ?_
    refine go_aload_n X d_Machine_workOnStack_308 rfl rfl ?_
    refine go_get (v := vr (o + 183)) X f_Machine_19 h.2.2.1.1 rfl d_Machine_workOnStack_309 (s_vref (show M (o + 225) 2 = o + 183 from h.2.2.1.2.2.1.2.2.1) (by omega)) ?_
    refine go_aload_n X d_Machine_workOnStack_312 rfl rfl ?_
    refine go_get (v := vr (o + 241)) X f_Machine_69 h.2.2.1.1 rfl d_Machine_workOnStack_313 (s_vref (show M (o + 225) 13 = o + 241 from h.2.2.1.2.2.2.1.2.2.2.2.2.2.2.2.1.trans (by omega)) (by omega)) ?_
    refine go_cV (st2 := []) (r := []) X k_Machine_148 (x_takeAny1 l D h ) h.2.1.1 rfl rfl (by omega) (Nat.le_of_ble_eq_true rfl) d_Machine_workOnStack_316 (by omega) (by omega) (fun v' sh' M114 sz' hpp => ?_)
    obtain ⟨e1, e2, e3, rd115, fr116⟩ := hpp
    subst e1
    rw [e2, e3]
    clear e2 e3
    show Go g 0 0 sh M114 sz 319 [(0, vr (o + 225)), (1, vi op), (2, vl x)] []
    refine go_aload_n X d_Machine_workOnStack_319 rfl rfl ?_
    refine go_get (v := vr (o + 183)) X f_Machine_19 rd115.2.2.1.1 rfl d_Machine_workOnStack_320 (s_vref (show M114 (o + 225) 2 = o + 183 from rd115.2.2.1.2.2.1.2.2.1) (by omega)) ?_
    refine go_aload_n X d_Machine_workOnStack_323 rfl rfl ?_
    refine go_get (v := vr (o + 241)) X f_Machine_69 rd115.2.2.1.1 rfl d_Machine_workOnStack_324 (s_vref (show M114 (o + 225) 13 = o + 241 from rd115.2.2.1.2.2.2.1.2.2.2.2.2.2.2.2.1.trans (by omega)) (by omega)) ?_
    refine go_cVf (st2 := [vi (s_b (nth_ (pv (s.1.2.1) (s.1.2.2)))), vr (o + 183)]) (r := [vr (o + 183)]) X k_Machine_173 (c_Value_isNothing l D rd115.2.2.2.2.2.2.1) rd115.2.2.2.2.2.2.1.1 rfl rfl (by omega) (Nat.le_of_ble_eq_true rfl) d_Machine_workOnStack_327 (by omega) (by omega) rfl ?_
    refine go_cV (st2 := []) (r := []) X k_Machine_156 (x_giveTruth l D rd115 (b := (nth_ (pv (s.1.2.1) (s.1.2.2))))) rd115.2.1.1 rfl rfl (by omega) (Nat.le_of_ble_eq_true rfl) d_Machine_workOnStack_330 (by omega) (by omega) (fun v' sh' M118 sz' hpp => ?_)
    obtain ⟨e1, e2, e3, rd119, fr120⟩ := hpp
    subst e1
    rw [e2, e3]
    clear e2 e3
    show Go g 0 0 sh M118 sz 333 [(0, vr (o + 225)), (1, vi op), (2, vl x)] []
    have fr121 : fr (fun z => z = o + 1 ∨ (o + 2 ≤ z ∧ z < o + 157) ∨ (o + 183 ≤ z ∧ z ≤ o + 246)) M M118 := fun z hz => (fr120 z hz).trans (fr116 z hz)
    refine go_goto (tgt := 348) X d_Machine_workOnStack_333 rfl ?_
    refine go_vret X d_Machine_workOnStack_348 rfl (by omega) (by omega) ?_
    have hT : wsk hd ns s.2.1.2 op x s.1 = sG (0, s_b (nth_ (vA s.1)), []) (sTA s.1) := (if_neg (by omega)).trans ((if_neg (by omega)).trans ((if_neg (by omega)).trans ((if_neg (by omega)).trans ((if_neg (by omega)).trans ((if_neg (by omega)).trans ((if_neg (by omega)).trans ((if_neg (by omega)).trans ((if_pos (by omega))))))))))
    unfold wkS
    rw [hT]
    exact ⟨rfl, rfl, rfl, ⟨T1, T2, T3, pv (s.1.2.1) (s.1.2.2), U2, rd119⟩, fr121⟩
