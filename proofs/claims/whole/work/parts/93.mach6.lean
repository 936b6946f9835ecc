abbrev ppT : Type := (Int → Int) × (Int → Int) × (Int → Int) × (Int → Int) × (Int → Int)
def fnP (t : List Int) (b : Int) (P : ppT) : ppT := (rset (rset P.1 0 (fnm t b).2.1) 1 (fnm t b).2.2, P.2)
def tkP (t : List Int) (P : ppT) : ppT := (tkV (dV t P.1 P.2.1 P.2.2.1 P.2.2.2.2 (P.1 0) (P.1 1)) (lwl t (dB t P.1 P.2.1 P.2.2.1 P.2.2.2.2 (P.1 0) (P.1 1)) (dN t P.1 P.2.1 P.2.2.1 P.2.2.2.2 (P.1 0) (P.1 1)) P.2.2.2.1 ((dV t P.1 P.2.1 P.2.2.1 P.2.2.2.2 (P.1 0) (P.1 1)) 5)) (dP t P.1 P.2.1 P.2.2.1 P.2.2.2.2 (P.1 0) (P.1 1)), dB t P.1 P.2.1 P.2.2.1 P.2.2.2.2 (P.1 0) (P.1 1), dN t P.1 P.2.1 P.2.2.1 P.2.2.2.2 (P.1 0) (P.1 1), lwl t (dB t P.1 P.2.1 P.2.2.1 P.2.2.2.2 (P.1 0) (P.1 1)) (dN t P.1 P.2.1 P.2.2.1 P.2.2.2.2 (P.1 0) (P.1 1)) P.2.2.2.1 ((dV t P.1 P.2.1 P.2.2.1 P.2.2.2.2 (P.1 0) (P.1 1)) 5), dP t P.1 P.2.1 P.2.2.1 P.2.2.2.2 (P.1 0) (P.1 1))
def ptP (t : List Int) (m : Int) (P : ppT) : List Int := ptg t P.2.1 P.2.2.1 (P.1 8) (P.1 9) (P.1 10) (P.1 11) (P.1 12) (P.1 13) (P.1 14) (P.1 15) m
def wk24 (x : Int) (s : rnT) : rnT := if (fnm (vT (sTN s.1)) (vN s.1)).1 = true then (sG (1, 0, ptP (vT (sTN s.1)) (x % 4) (tkP (vT (sTN s.1)) (fnP (vT (sTN s.1)) (vN s.1) s.2.2.2.2))) (sTT (sTN s.1)), s.2.1, s.2.2.1, s.2.2.2.1, tkP (vT (sTN s.1)) (fnP (vT (sTN s.1)) (vN s.1) s.2.2.2.2)) else (sG (1, 0, []) (inc (sTT (sTN s.1)).1 9, (sTT (sTN s.1)).2), s.2.1, s.2.2.1, s.2.2.2.1, fnP (vT (sTN s.1)) (vN s.1) s.2.2.2.2)
def wkT (op x : Int) (s : rnT) : rnT :=
  if op = 23 then (sG (0, wi32 (cnn (vT s.1)), []) (sTT s.1), s.2)
  else if op = 24 then wk24 x s
  else if op = 25 then (sG (1, 0, kof (vT s.1) (x % 3)) (sTT s.1), s.2)
  else if op = 26 then (sG (1, 0, pof (vT s.1)) (sTT s.1), s.2)
  else if op = 27 then (sG (0, wi32 (nof (vT s.1)), []) (sTT s.1), s.2)
  else if op = 28 then (sG (1, 0, cof (vT (sTN s.1)) (vN s.1)) (sTT (sTN s.1)), s.2)
  else (sG (1, 0, oof (vT (sTN (sTN s.1))) (vN (sTN s.1)) (vN s.1)) (sTT (sTN (sTN s.1))), s.2)
set_option maxHeartbeats 4000000 in
set_option maxRecDepth 100000 in
theorem c_workOnText (l : Launch) (D : va_G) {sh : s_S} {M : s_M} {sz o hd ns : Int} {O Q Z : Int → Int} {s : rnT} (hX : mwx sh M sz o hd O Q Z ns s) {op : Int} (hop : 23 ≤ op ∧ op ≤ 29) {x : Int} (hxr : 0 ≤ x ∧ x < 9223372036854775808) : Sp l D y_Machine_workOnText prog_5_method_17_code 7 none 8 0 0 [vr (o + 225), vi op, vl x] sh M sz (fun v' sh' M' sz' => v' = none ∧ sh' = sh ∧ sz' = sz ∧ mwx sh M' sz o hd O Q Z ns (wkT op x s) ∧ fr (fun z => z = o + 1 ∨ (o + 2 ≤ z ∧ z < o + 157) ∨ (o + 183 ≤ z ∧ z ≤ o + 246)) M M') := by
  obtain ⟨T1, T2, T3, U1, U2, h⟩ := hX
  have ho := h.2.2.2.2.2.2.2.2.2.2.2.2.2.2
  refine Sp.ofGo (own := "CiteForge$Machine") (nm := "workOnText") (by decide) rfl rfl (Nat.le_of_ble_eq_true rfl) (lv := [(0, vr (o + 225)), (1, vi op), (2, vl x)]) rfl ?_
  intro g X
  refine go_iload_n X d_Machine_workOnText_0 rfl rfl ?_
  refine go_bipush (v := 29) X d_Machine_workOnText_1 (by decide) ?_
  refine go_icmp_ne (tgt := 16) X d_Machine_workOnText_3 rfl (by omega) (by omega) (fun hq1 => ?_) (fun hq1 => ?_)
  · skip
    refine go_iconst (v := 0) X d_Machine_workOnText_16 ?_
    refine go_istore (lv' := [(4, vi 0), (0, vr (o + 225)), (1, vi op), (2, vl x)]) X d_Machine_workOnText_17 (by decide) rfl ?_
    refine go_iload_n X d_Machine_workOnText_19 rfl rfl ?_
    refine go_bipush (v := 24) X d_Machine_workOnText_20 (by decide) ?_
    refine go_icmp_eq (tgt := 37) X d_Machine_workOnText_22 rfl (by omega) (by omega) (fun hq2 => ?_) (fun hq2 => ?_)
    · skip
      refine go_iconst (v := 1) X d_Machine_workOnText_37 ?_
      refine go_goto (tgt := 42) X d_Machine_workOnText_38 rfl ?_
      refine go_istore (lv' := [(5, vi 1), (4, vi 0), (0, vr (o + 225)), (1, vi op), (2, vl x)]) X d_Machine_workOnText_42 (by decide) rfl ?_
      refine go_iload X d_Machine_workOnText_44 rfl ?_
      refine go_if_eq (tgt := 59) X d_Machine_workOnText_46 rfl (by omega) (fun h9 => absurd h9 (by decide)) (fun _ => ?_)
      refine go_aload_n X d_Machine_workOnText_49 rfl rfl ?_
      refine go_get (v := vr (o + 183)) X f_Machine_19 h.2.2.1.1 rfl d_Machine_workOnText_50 (s_vref (show M (o + 225) 2 = o + 183 from h.2.2.1.2.2.1.2.2.1) (by omega)) ?_
      have hr3 := qn_rng h.2.1
      refine go_cV (st2 := []) (r := []) X k_Machine_124 (x_takeNumber l D h ) h.2.1.1 rfl rfl (by omega) (Nat.le_of_ble_eq_true rfl) d_Machine_workOnText_53 (by omega) (by omega) (fun v' sh' M4 sz' hpp => ?_)
      obtain ⟨e1, e2, e3, rd5, fr6⟩ := hpp
      subst e1
      rw [e2, e3]
      clear e2 e3
      show Go g 0 0 sh M4 sz 56 [(5, vi 1), (4, vi 0), (0, vr (o + 225)), (1, vi op), (2, vl x)] [vi (qn (s.1.2.1) (s.1.2.2))]
      refine go_goto (tgt := 60) X d_Machine_workOnText_56 rfl ?_
      refine go_istore (lv' := [(6, vi (qn (s.1.2.1) (s.1.2.2))), (5, vi 1), (4, vi 0), (0, vr (o + 225)), (1, vi op), (2, vl x)]) X d_Machine_workOnText_60 (by decide) rfl ?_
      refine go_aload_n X d_Machine_workOnText_62 rfl rfl ?_
      refine go_get (v := vr (o + 183)) X f_Machine_19 rd5.2.2.1.1 rfl d_Machine_workOnText_63 (s_vref (show M4 (o + 225) 2 = o + 183 from rd5.2.2.1.2.2.1.2.2.1) (by omega)) ?_
      refine go_aload_n X d_Machine_workOnText_66 rfl rfl ?_
      refine go_get (v := vr (o + 235)) X f_Machine_56 rd5.2.2.1.1 rfl d_Machine_workOnText_67 (s_vref (show M4 (o + 225) 10 = o + 235 from rd5.2.2.1.2.2.2.1.2.2.2.2.2.1.trans (by omega)) (by omega)) ?_
      refine go_cV (st2 := []) (r := []) X k_Machine_160 (x_takeText1 l D rd5 ) rd5.2.1.1 rfl rfl (by omega) (Nat.le_of_ble_eq_true rfl) d_Machine_workOnText_70 (by omega) (by omega) (fun v' sh' M8 sz' hpp => ?_)
      obtain ⟨e1, e2, e3, rd9, fr10⟩ := hpp
      subst e1
      rw [e2, e3]
      clear e2 e3
      show Go g 0 0 sh M8 sz 73 [(6, vi (qn (s.1.2.1) (s.1.2.2))), (5, vi 1), (4, vi 0), (0, vr (o + 225)), (1, vi op), (2, vl x)] []
      have fr11 : fr (fun z => z = o + 1 ∨ (o + 2 ≤ z ∧ z < o + 157) ∨ (o + 183 ≤ z ∧ z ≤ o + 246)) M M8 := fun z hz => (fr10 z hz).trans (fr6 z hz)
      refine go_iload_n X d_Machine_workOnText_73 rfl rfl ?_
      rcases (show (op < 23 ∨ 28 < op) ∨ op = 23 ∨ op = 24 ∨ op = 25 ∨ op = 26 ∨ op = 27 ∨ op = 28 by omega) with ht12 | ht12 | ht12 | ht12 | ht12 | ht12 | ht12
      · skip
        refine go_tabOut (tgt := 264) X d_Machine_workOnText_74 (by omega) ht12 rfl ?_
        exfalso
        omega
      · skip
        refine go_tabIn (off := 38) (tgt := 112) X d_Machine_workOnText_74 (by omega) (by omega) (by omega) (by rw [ht12]; rfl) rfl ?_
        exfalso
        omega
      · skip
        refine go_tabIn (off := 68) (tgt := 142) X d_Machine_workOnText_74 (by omega) (by omega) (by omega) (by rw [ht12]; rfl) rfl ?_
        refine go_aload_n X d_Machine_workOnText_142 rfl rfl ?_
        refine go_get (v := vr (o + 226)) X f_Machine_34 rd9.2.2.1.1 rfl d_Machine_workOnText_143 (s_vref (show M8 (o + 225) 5 = o + 226 from rd9.2.2.1.2.2.2.1.1.trans (by omega)) (by omega)) ?_
        refine go_aload_n X d_Machine_workOnText_146 rfl rfl ?_
        refine go_get (v := vr (o + 235)) X f_Machine_56 rd9.2.2.1.1 rfl d_Machine_workOnText_147 (s_vref (show M8 (o + 225) 10 = o + 235 from rd9.2.2.1.2.2.2.1.2.2.2.2.2.1.trans (by omega)) (by omega)) ?_
        refine go_iload X d_Machine_workOnText_150 rfl ?_
        refine go_cV (st2 := []) (r := []) X k_Machine_225 (x_findName l D rd9 (b := qn (s.1.2.1) (s.1.2.2)) (by omega)) rd9.2.2.2.2.2.2.2.2.2.2.2.2.1.1.1 rfl rfl (by omega) (Nat.le_of_ble_eq_true rfl) d_Machine_workOnText_152 (by omega) (by omega) (fun v' sh' M13 sz' hpp => ?_)
        obtain ⟨e1, e2, e3, rd14, fr15⟩ := hpp
        subst e1
        rw [e2, e3]
        clear e2 e3
        show Go g 0 0 sh M13 sz 155 [(6, vi (qn (s.1.2.1) (s.1.2.2))), (5, vi 1), (4, vi 0), (0, vr (o + 225)), (1, vi op), (2, vl x)] [vi (s_b (fnm (qt (pn (s.1.2.1)) (s.1.2.2)) (qn (s.1.2.1) (s.1.2.2))).1)]
        have fr16 : fr (fun z => z = o + 1 ∨ (o + 2 ≤ z ∧ z < o + 157) ∨ (o + 183 ≤ z ∧ z ≤ o + 246)) M M13 := fun z hz => (fr15 z hz).trans (fr11 z hz)
        refine go_ifb_eq (tgt := 193) X d_Machine_workOnText_155 rfl (fun hq17 => ?_) (fun hq17 => ?_)
        · skip
          refine go_aload_n X d_Machine_workOnText_193 rfl rfl ?_
          refine go_get (v := vr (o + 1)) X f_Machine_27 rd14.2.2.1.1 rfl d_Machine_workOnText_194 (s_varr (show M13 (o + 225) 4 = o + 1 from rd14.2.2.1.2.2.1.2.2.2.2) (by omega)) ?_
          refine go_bipush (v := 9) X d_Machine_workOnText_197 (by decide) ?_
          refine go_dup2 X d_Machine_workOnText_199 rfl rfl ?_
          refine go_iald X rd14.1.1 (by omega) (by omega) d_Machine_workOnText_200 ?_
          refine go_top (v' := vi ((tW (pn (s.1.2.1)) (s.1.2.2) (qW (s.1.2.1) (s.1.2.2) (s.1.1))) 9)) X (by rw [rd14.1.2]) ?_
          refine go_iconst (v := 1) X d_Machine_workOnText_201 ?_
          refine go_iadd X d_Machine_workOnText_202 ?_
          refine go_iast (x := (((tW (pn (s.1.2.1)) (s.1.2.2) (qW (s.1.2.1) (s.1.2.2) (s.1.1))) 9) + 1)) X rd14.1.1 (by omega) (by omega) d_Machine_workOnText_203 ?_
          have rd19 : mwd sh (m_s M13 (o + 1) 9 (((tW (pn (s.1.2.1)) (s.1.2.2) (qW (s.1.2.1) (s.1.2.2) (s.1.1))) 9) + 1)) sz o hd (s.2.2.2.1) O Q Z (s.2.1.1) (inc (tW (pn (s.1.2.1)) (s.1.2.2) (qW (s.1.2.1) (s.1.2.2) (s.1.1))) 9) (pn (pn (s.1.2.1))) (s.1.2.2) (qt (pn (s.1.2.1)) (s.1.2.2)) T2 T3 U1 U2 (rset (rset (s.2.2.2.2.1) 0 (fnm (qt (pn (s.1.2.1)) (s.1.2.2)) (qn (s.1.2.1) (s.1.2.2))).2.1) 1 (fnm (qt (pn (s.1.2.1)) (s.1.2.2)) (qn (s.1.2.1) (s.1.2.2))).2.2) (s.2.2.2.2.2.1) (s.2.2.2.2.2.2.1) (s.2.2.2.2.2.2.2.1) (s.2.2.2.2.2.2.2.2) ns (s.2.1.2) (s.2.2.1.1) (s.2.2.1.2.1) (s.2.2.1.2.2) := rd14.incW
          have fr20 : fr (fun z => z = o + 1 ∨ (o + 2 ≤ z ∧ z < o + 157) ∨ (o + 183 ≤ z ∧ z ≤ o + 246)) M13 (m_s M13 (o + 1) 9 (((tW (pn (s.1.2.1)) (s.1.2.2) (qW (s.1.2.1) (s.1.2.2) (s.1.1))) 9) + 1)) := fun z hz => by
            have hz1 : ¬ (z = o + 1 ∨ (o + 2 ≤ z ∧ z < o + 157) ∨ (o + 183 ≤ z ∧ z ≤ o + 246)) := hz
            exact m_s_a (by omega)
          generalize m_s M13 (o + 1) 9 (((tW (pn (s.1.2.1)) (s.1.2.2) (qW (s.1.2.1) (s.1.2.2) (s.1.1))) 9) + 1) = M18 at rd19 fr20 ⊢
          have fr21 : fr (fun z => z = o + 1 ∨ (o + 2 ≤ z ∧ z < o + 157) ∨ (o + 183 ≤ z ∧ z ≤ o + 246)) M M18 := fun z hz => (fr20 z hz).trans (fr16 z hz)
          refine go_aload_n X d_Machine_workOnText_204 rfl rfl ?_
          refine go_get (v := vr (o + 239)) X f_Machine_63 rd19.2.2.1.1 rfl d_Machine_workOnText_205 (s_vref (show M18 (o + 225) 12 = o + 239 from rd19.2.2.1.2.2.2.1.2.2.2.2.2.2.2.1.trans (by omega)) (by omega)) ?_
          refine go_cV (st2 := []) (r := []) X k_Machine_236 (x_reset3 l D rd19 ) rd19.2.2.2.2.2.1.1.1 rfl rfl (by omega) (Nat.le_of_ble_eq_true rfl) d_Machine_workOnText_208 (by omega) (by omega) (fun v' sh' M22 sz' hpp => ?_)
          obtain ⟨e1, e2, e3, rd23, fr24⟩ := hpp
          subst e1
          rw [e2, e3]
          clear e2 e3
          show Go g 0 0 sh M22 sz 211 [(6, vi (qn (s.1.2.1) (s.1.2.2))), (5, vi 1), (4, vi 0), (0, vr (o + 225)), (1, vi op), (2, vl x)] []
          have fr25 : fr (fun z => z = o + 1 ∨ (o + 2 ≤ z ∧ z < o + 157) ∨ (o + 183 ≤ z ∧ z ≤ o + 246)) M M22 := fun z hz => (fr24 z hz).trans (fr21 z hz)
          refine go_goto (tgt := 279) X d_Machine_workOnText_211 rfl ?_
          refine go_aload_n X d_Machine_workOnText_279 rfl rfl ?_
          refine go_get (v := vr (o + 183)) X f_Machine_19 rd23.2.2.1.1 rfl d_Machine_workOnText_280 (s_vref (show M22 (o + 225) 2 = o + 183 from rd23.2.2.1.2.2.1.2.2.1) (by omega)) ?_
          refine go_aload_n X d_Machine_workOnText_283 rfl rfl ?_
          refine go_get (v := vr (o + 239)) X f_Machine_63 rd23.2.2.1.1 rfl d_Machine_workOnText_284 (s_vref (show M22 (o + 225) 12 = o + 239 from rd23.2.2.1.2.2.2.1.2.2.2.2.2.2.2.1.trans (by omega)) (by omega)) ?_
          refine go_cV (st2 := []) (r := []) X k_Machine_137 (x_giveText3 l D rd23 ) rd23.2.1.1 rfl rfl (by omega) (Nat.le_of_ble_eq_true rfl) d_Machine_workOnText_287 (by omega) (by omega) (fun v' sh' M26 sz' hpp => ?_)
          obtain ⟨e1, e2, e3, rd27, fr28⟩ := hpp
          subst e1
          rw [e2, e3]
          clear e2 e3
          show Go g 0 0 sh M26 sz 290 [(6, vi (qn (s.1.2.1) (s.1.2.2))), (5, vi 1), (4, vi 0), (0, vr (o + 225)), (1, vi op), (2, vl x)] []
          have fr29 : fr (fun z => z = o + 1 ∨ (o + 2 ≤ z ∧ z < o + 157) ∨ (o + 183 ≤ z ∧ z ≤ o + 246)) M M26 := fun z hz => (fr28 z hz).trans (fr25 z hz)
          refine go_vret X d_Machine_workOnText_290 rfl (by omega) (by omega) ?_
          have hT : wkT op x s = wk24 x s := (if_neg (by omega)).trans ((if_pos (by omega)))
          rw [hT]
          unfold wk24
          rw [if_neg (by show ¬ (fnm (qt (pn s.1.2.1) s.1.2.2) (qn s.1.2.1 s.1.2.2)).1 = true; rw [hq17]; decide)]
          exact ⟨rfl, rfl, rfl, ⟨qt (pn (s.1.2.1)) (s.1.2.2), T2, [], U1, U2, rd27⟩, fr29⟩
        · skip
          refine go_aload_n X d_Machine_workOnText_158 rfl rfl ?_
          refine go_get (v := vr (o + 226)) X f_Machine_34 rd14.2.2.1.1 rfl d_Machine_workOnText_159 (s_vref (show M13 (o + 225) 5 = o + 226 from rd14.2.2.1.2.2.2.1.1.trans (by omega)) (by omega)) ?_
          refine go_aload_n X d_Machine_workOnText_162 rfl rfl ?_
          refine go_get (v := vr (o + 235)) X f_Machine_56 rd14.2.2.1.1 rfl d_Machine_workOnText_163 (s_vref (show M13 (o + 225) 10 = o + 235 from rd14.2.2.1.2.2.2.1.2.2.2.2.2.1.trans (by omega)) (by omega)) ?_
          have hfr := fnm_rng (b := (qn (s.1.2.1) (s.1.2.2))) rd14.2.2.2.1.len.1
          have hp0 : 0 ≤ (rset (rset (s.2.2.2.2.1) 0 (fnm (qt (pn (s.1.2.1)) (s.1.2.2)) (qn (s.1.2.1) (s.1.2.2))).2.1) 1 (fnm (qt (pn (s.1.2.1)) (s.1.2.2)) (qn (s.1.2.1) (s.1.2.2))).2.2) 0 ∧ (rset (rset (s.2.2.2.2.1) 0 (fnm (qt (pn (s.1.2.1)) (s.1.2.2)) (qn (s.1.2.1) (s.1.2.2))).2.1) 1 (fnm (qt (pn (s.1.2.1)) (s.1.2.2)) (qn (s.1.2.1) (s.1.2.2))).2.2) 0 ≤ 1000 := by simp only [rset]; simp; omega
          have hp1 : 0 ≤ (rset (rset (s.2.2.2.2.1) 0 (fnm (qt (pn (s.1.2.1)) (s.1.2.2)) (qn (s.1.2.1) (s.1.2.2))).2.1) 1 (fnm (qt (pn (s.1.2.1)) (s.1.2.2)) (qn (s.1.2.1) (s.1.2.2))).2.2) 1 ∧ (rset (rset (s.2.2.2.2.1) 0 (fnm (qt (pn (s.1.2.1)) (s.1.2.2)) (qn (s.1.2.1) (s.1.2.2))).2.1) 1 (fnm (qt (pn (s.1.2.1)) (s.1.2.2)) (qn (s.1.2.1) (s.1.2.2))).2.2) 1 ≤ 1000 := by simp only [rset]; simp; omega
          refine go_cV (st2 := []) (r := []) X k_Machine_229 (x_takeApart l D rd14 hp0 hp1) rd14.2.2.2.2.2.2.2.2.2.2.2.2.1.1.1 rfl rfl (by omega) (Nat.le_of_ble_eq_true rfl) d_Machine_workOnText_166 (by omega) (by omega) (fun v' sh' M30 sz' hpp => ?_)
          obtain ⟨e1, e2, e3, rd31, fr32⟩ := hpp
          subst e1
          rw [e2, e3]
          clear e2 e3
          show Go g 0 0 sh M30 sz 169 [(6, vi (qn (s.1.2.1) (s.1.2.2))), (5, vi 1), (4, vi 0), (0, vr (o + 225)), (1, vi op), (2, vl x)] []
          have fr33 : fr (fun z => z = o + 1 ∨ (o + 2 ≤ z ∧ z < o + 157) ∨ (o + 183 ≤ z ∧ z ≤ o + 246)) M M30 := fun z hz => (fr32 z hz).trans (fr16 z hz)
          have htk := tkV_rng (Lw := lwl (qt (pn (s.1.2.1)) (s.1.2.2)) (dB (qt (pn (s.1.2.1)) (s.1.2.2)) (rset (rset (s.2.2.2.2.1) 0 (fnm (qt (pn (s.1.2.1)) (s.1.2.2)) (qn (s.1.2.1) (s.1.2.2))).2.1) 1 (fnm (qt (pn (s.1.2.1)) (s.1.2.2)) (qn (s.1.2.1) (s.1.2.2))).2.2) (s.2.2.2.2.2.1) (s.2.2.2.2.2.2.1) (s.2.2.2.2.2.2.2.2) ((rset (rset (s.2.2.2.2.1) 0 (fnm (qt (pn (s.1.2.1)) (s.1.2.2)) (qn (s.1.2.1) (s.1.2.2))).2.1) 1 (fnm (qt (pn (s.1.2.1)) (s.1.2.2)) (qn (s.1.2.1) (s.1.2.2))).2.2) 0) ((rset (rset (s.2.2.2.2.1) 0 (fnm (qt (pn (s.1.2.1)) (s.1.2.2)) (qn (s.1.2.1) (s.1.2.2))).2.1) 1 (fnm (qt (pn (s.1.2.1)) (s.1.2.2)) (qn (s.1.2.1) (s.1.2.2))).2.2) 1)) (dN (qt (pn (s.1.2.1)) (s.1.2.2)) (rset (rset (s.2.2.2.2.1) 0 (fnm (qt (pn (s.1.2.1)) (s.1.2.2)) (qn (s.1.2.1) (s.1.2.2))).2.1) 1 (fnm (qt (pn (s.1.2.1)) (s.1.2.2)) (qn (s.1.2.1) (s.1.2.2))).2.2) (s.2.2.2.2.2.1) (s.2.2.2.2.2.2.1) (s.2.2.2.2.2.2.2.2) ((rset (rset (s.2.2.2.2.1) 0 (fnm (qt (pn (s.1.2.1)) (s.1.2.2)) (qn (s.1.2.1) (s.1.2.2))).2.1) 1 (fnm (qt (pn (s.1.2.1)) (s.1.2.2)) (qn (s.1.2.1) (s.1.2.2))).2.2) 0) ((rset (rset (s.2.2.2.2.1) 0 (fnm (qt (pn (s.1.2.1)) (s.1.2.2)) (qn (s.1.2.1) (s.1.2.2))).2.1) 1 (fnm (qt (pn (s.1.2.1)) (s.1.2.2)) (qn (s.1.2.1) (s.1.2.2))).2.2) 1)) (s.2.2.2.2.2.2.2.1) ((dV (qt (pn (s.1.2.1)) (s.1.2.2)) (rset (rset (s.2.2.2.2.1) 0 (fnm (qt (pn (s.1.2.1)) (s.1.2.2)) (qn (s.1.2.1) (s.1.2.2))).2.1) 1 (fnm (qt (pn (s.1.2.1)) (s.1.2.2)) (qn (s.1.2.1) (s.1.2.2))).2.2) (s.2.2.2.2.2.1) (s.2.2.2.2.2.2.1) (s.2.2.2.2.2.2.2.2) ((rset (rset (s.2.2.2.2.1) 0 (fnm (qt (pn (s.1.2.1)) (s.1.2.2)) (qn (s.1.2.1) (s.1.2.2))).2.1) 1 (fnm (qt (pn (s.1.2.1)) (s.1.2.2)) (qn (s.1.2.1) (s.1.2.2))).2.2) 0) ((rset (rset (s.2.2.2.2.1) 0 (fnm (qt (pn (s.1.2.1)) (s.1.2.2)) (qn (s.1.2.1) (s.1.2.2))).2.1) 1 (fnm (qt (pn (s.1.2.1)) (s.1.2.2)) (qn (s.1.2.1) (s.1.2.2))).2.2) 1)) 5)) (d_ok (t := (qt (pn (s.1.2.1)) (s.1.2.2))) (V := rset (rset (s.2.2.2.2.1) 0 (fnm (qt (pn (s.1.2.1)) (s.1.2.2)) (qn (s.1.2.1) (s.1.2.2))).2.1) 1 (fnm (qt (pn (s.1.2.1)) (s.1.2.2)) (qn (s.1.2.1) (s.1.2.2))).2.2) (B := s.2.2.2.2.2.1) (N := s.2.2.2.2.2.2.1) (Pb := s.2.2.2.2.2.2.2.2) hp0 hp1)
          refine go_aload_n X d_Machine_workOnText_169 rfl rfl ?_
          refine go_get (v := vr (o + 226)) X f_Machine_34 rd31.2.2.1.1 rfl d_Machine_workOnText_170 (s_vref (show M30 (o + 225) 5 = o + 226 from rd31.2.2.1.2.2.2.1.1.trans (by omega)) (by omega)) ?_
          refine go_aload_n X d_Machine_workOnText_173 rfl rfl ?_
          refine go_get (v := vr (o + 235)) X f_Machine_56 rd31.2.2.1.1 rfl d_Machine_workOnText_174 (s_vref (show M30 (o + 225) 10 = o + 235 from rd31.2.2.1.2.2.2.1.2.2.2.2.2.1.trans (by omega)) (by omega)) ?_
          refine go_lload_n X d_Machine_workOnText_177 rfl rfl ?_
          refine go_ldc2 (x := 4) X w_kl_Machine_187 (by decide) d_Machine_workOnText_178 ?_
          refine go_lrem (z := x % 4) X d_Machine_workOnText_181 (by decide) (l_remc (by omega) (by decide)) ?_
          refine go_l2i X d_Machine_workOnText_182 ?_
          refine go_aload_n X d_Machine_workOnText_183 rfl rfl ?_
          refine go_get (v := vr (o + 239)) X f_Machine_63 rd31.2.2.1.1 rfl d_Machine_workOnText_184 (s_vref (show M30 (o + 225) 12 = o + 239 from rd31.2.2.1.2.2.2.1.2.2.2.2.2.2.2.1.trans (by omega)) (by omega)) ?_
          refine go_cV (st2 := []) (r := []) X k_Machine_232 (x_putTogether l D rd31 (m := x % 4) (by omega) htk) rd31.2.2.2.2.2.2.2.2.2.2.2.2.1.1.1 rfl rfl (by omega) (Nat.le_of_ble_eq_true rfl) d_Machine_workOnText_187 (by omega) (by omega) (fun v' sh' M34 sz' hpp => ?_)
          obtain ⟨e1, e2, e3, rd35, fr36⟩ := hpp
          subst e1
          rw [e2, e3]
          clear e2 e3
          show Go g 0 0 sh M34 sz 190 [(6, vi (qn (s.1.2.1) (s.1.2.2))), (5, vi 1), (4, vi 0), (0, vr (o + 225)), (1, vi op), (2, vl x)] []
          have fr37 : fr (fun z => z = o + 1 ∨ (o + 2 ≤ z ∧ z < o + 157) ∨ (o + 183 ≤ z ∧ z ≤ o + 246)) M M34 := fun z hz => (fr36 z hz).trans (fr33 z hz)
          refine go_goto (tgt := 279) X d_Machine_workOnText_190 rfl ?_
          refine go_aload_n X d_Machine_workOnText_279 rfl rfl ?_
          refine go_get (v := vr (o + 183)) X f_Machine_19 rd35.2.2.1.1 rfl d_Machine_workOnText_280 (s_vref (show M34 (o + 225) 2 = o + 183 from rd35.2.2.1.2.2.1.2.2.1) (by omega)) ?_
          refine go_aload_n X d_Machine_workOnText_283 rfl rfl ?_
          refine go_get (v := vr (o + 239)) X f_Machine_63 rd35.2.2.1.1 rfl d_Machine_workOnText_284 (s_vref (show M34 (o + 225) 12 = o + 239 from rd35.2.2.1.2.2.2.1.2.2.2.2.2.2.2.1.trans (by omega)) (by omega)) ?_
          refine go_cV (st2 := []) (r := []) X k_Machine_137 (x_giveText3 l D rd35 ) rd35.2.1.1 rfl rfl (by omega) (Nat.le_of_ble_eq_true rfl) d_Machine_workOnText_287 (by omega) (by omega) (fun v' sh' M38 sz' hpp => ?_)
          obtain ⟨e1, e2, e3, rd39, fr40⟩ := hpp
          subst e1
          rw [e2, e3]
          clear e2 e3
          show Go g 0 0 sh M38 sz 290 [(6, vi (qn (s.1.2.1) (s.1.2.2))), (5, vi 1), (4, vi 0), (0, vr (o + 225)), (1, vi op), (2, vl x)] []
          have fr41 : fr (fun z => z = o + 1 ∨ (o + 2 ≤ z ∧ z < o + 157) ∨ (o + 183 ≤ z ∧ z ≤ o + 246)) M M38 := fun z hz => (fr40 z hz).trans (fr37 z hz)
          refine go_vret X d_Machine_workOnText_290 rfl (by omega) (by omega) ?_
          have hT : wkT op x s = wk24 x s := (if_neg (by omega)).trans ((if_pos (by omega)))
          rw [hT]
          unfold wk24
          rw [if_pos (show (fnm (vT (sTN s.1)) (vN s.1)).1 = true from hq17)]
          exact ⟨rfl, rfl, rfl, ⟨qt (pn (s.1.2.1)) (s.1.2.2), T2, ptg (qt (pn (s.1.2.1)) (s.1.2.2)) (dB (qt (pn (s.1.2.1)) (s.1.2.2)) (rset (rset (s.2.2.2.2.1) 0 (fnm (qt (pn (s.1.2.1)) (s.1.2.2)) (qn (s.1.2.1) (s.1.2.2))).2.1) 1 (fnm (qt (pn (s.1.2.1)) (s.1.2.2)) (qn (s.1.2.1) (s.1.2.2))).2.2) (s.2.2.2.2.2.1) (s.2.2.2.2.2.2.1) (s.2.2.2.2.2.2.2.2) ((rset (rset (s.2.2.2.2.1) 0 (fnm (qt (pn (s.1.2.1)) (s.1.2.2)) (qn (s.1.2.1) (s.1.2.2))).2.1) 1 (fnm (qt (pn (s.1.2.1)) (s.1.2.2)) (qn (s.1.2.1) (s.1.2.2))).2.2) 0) ((rset (rset (s.2.2.2.2.1) 0 (fnm (qt (pn (s.1.2.1)) (s.1.2.2)) (qn (s.1.2.1) (s.1.2.2))).2.1) 1 (fnm (qt (pn (s.1.2.1)) (s.1.2.2)) (qn (s.1.2.1) (s.1.2.2))).2.2) 1)) (dN (qt (pn (s.1.2.1)) (s.1.2.2)) (rset (rset (s.2.2.2.2.1) 0 (fnm (qt (pn (s.1.2.1)) (s.1.2.2)) (qn (s.1.2.1) (s.1.2.2))).2.1) 1 (fnm (qt (pn (s.1.2.1)) (s.1.2.2)) (qn (s.1.2.1) (s.1.2.2))).2.2) (s.2.2.2.2.2.1) (s.2.2.2.2.2.2.1) (s.2.2.2.2.2.2.2.2) ((rset (rset (s.2.2.2.2.1) 0 (fnm (qt (pn (s.1.2.1)) (s.1.2.2)) (qn (s.1.2.1) (s.1.2.2))).2.1) 1 (fnm (qt (pn (s.1.2.1)) (s.1.2.2)) (qn (s.1.2.1) (s.1.2.2))).2.2) 0) ((rset (rset (s.2.2.2.2.1) 0 (fnm (qt (pn (s.1.2.1)) (s.1.2.2)) (qn (s.1.2.1) (s.1.2.2))).2.1) 1 (fnm (qt (pn (s.1.2.1)) (s.1.2.2)) (qn (s.1.2.1) (s.1.2.2))).2.2) 1)) ((tkV (dV (qt (pn (s.1.2.1)) (s.1.2.2)) (rset (rset (s.2.2.2.2.1) 0 (fnm (qt (pn (s.1.2.1)) (s.1.2.2)) (qn (s.1.2.1) (s.1.2.2))).2.1) 1 (fnm (qt (pn (s.1.2.1)) (s.1.2.2)) (qn (s.1.2.1) (s.1.2.2))).2.2) (s.2.2.2.2.2.1) (s.2.2.2.2.2.2.1) (s.2.2.2.2.2.2.2.2) ((rset (rset (s.2.2.2.2.1) 0 (fnm (qt (pn (s.1.2.1)) (s.1.2.2)) (qn (s.1.2.1) (s.1.2.2))).2.1) 1 (fnm (qt (pn (s.1.2.1)) (s.1.2.2)) (qn (s.1.2.1) (s.1.2.2))).2.2) 0) ((rset (rset (s.2.2.2.2.1) 0 (fnm (qt (pn (s.1.2.1)) (s.1.2.2)) (qn (s.1.2.1) (s.1.2.2))).2.1) 1 (fnm (qt (pn (s.1.2.1)) (s.1.2.2)) (qn (s.1.2.1) (s.1.2.2))).2.2) 1)) (lwl (qt (pn (s.1.2.1)) (s.1.2.2)) (dB (qt (pn (s.1.2.1)) (s.1.2.2)) (rset (rset (s.2.2.2.2.1) 0 (fnm (qt (pn (s.1.2.1)) (s.1.2.2)) (qn (s.1.2.1) (s.1.2.2))).2.1) 1 (fnm (qt (pn (s.1.2.1)) (s.1.2.2)) (qn (s.1.2.1) (s.1.2.2))).2.2) (s.2.2.2.2.2.1) (s.2.2.2.2.2.2.1) (s.2.2.2.2.2.2.2.2) ((rset (rset (s.2.2.2.2.1) 0 (fnm (qt (pn (s.1.2.1)) (s.1.2.2)) (qn (s.1.2.1) (s.1.2.2))).2.1) 1 (fnm (qt (pn (s.1.2.1)) (s.1.2.2)) (qn (s.1.2.1) (s.1.2.2))).2.2) 0) ((rset (rset (s.2.2.2.2.1) 0 (fnm (qt (pn (s.1.2.1)) (s.1.2.2)) (qn (s.1.2.1) (s.1.2.2))).2.1) 1 (fnm (qt (pn (s.1.2.1)) (s.1.2.2)) (qn (s.1.2.1) (s.1.2.2))).2.2) 1)) (dN (qt (pn (s.1.2.1)) (s.1.2.2)) (rset (rset (s.2.2.2.2.1) 0 (fnm (qt (pn (s.1.2.1)) (s.1.2.2)) (qn (s.1.2.1) (s.1.2.2))).2.1) 1 (fnm (qt (pn (s.1.2.1)) (s.1.2.2)) (qn (s.1.2.1) (s.1.2.2))).2.2) (s.2.2.2.2.2.1) (s.2.2.2.2.2.2.1) (s.2.2.2.2.2.2.2.2) ((rset (rset (s.2.2.2.2.1) 0 (fnm (qt (pn (s.1.2.1)) (s.1.2.2)) (qn (s.1.2.1) (s.1.2.2))).2.1) 1 (fnm (qt (pn (s.1.2.1)) (s.1.2.2)) (qn (s.1.2.1) (s.1.2.2))).2.2) 0) ((rset (rset (s.2.2.2.2.1) 0 (fnm (qt (pn (s.1.2.1)) (s.1.2.2)) (qn (s.1.2.1) (s.1.2.2))).2.1) 1 (fnm (qt (pn (s.1.2.1)) (s.1.2.2)) (qn (s.1.2.1) (s.1.2.2))).2.2) 1)) (s.2.2.2.2.2.2.2.1) ((dV (qt (pn (s.1.2.1)) (s.1.2.2)) (rset (rset (s.2.2.2.2.1) 0 (fnm (qt (pn (s.1.2.1)) (s.1.2.2)) (qn (s.1.2.1) (s.1.2.2))).2.1) 1 (fnm (qt (pn (s.1.2.1)) (s.1.2.2)) (qn (s.1.2.1) (s.1.2.2))).2.2) (s.2.2.2.2.2.1) (s.2.2.2.2.2.2.1) (s.2.2.2.2.2.2.2.2) ((rset (rset (s.2.2.2.2.1) 0 (fnm (qt (pn (s.1.2.1)) (s.1.2.2)) (qn (s.1.2.1) (s.1.2.2))).2.1) 1 (fnm (qt (pn (s.1.2.1)) (s.1.2.2)) (qn (s.1.2.1) (s.1.2.2))).2.2) 0) ((rset (rset (s.2.2.2.2.1) 0 (fnm (qt (pn (s.1.2.1)) (s.1.2.2)) (qn (s.1.2.1) (s.1.2.2))).2.1) 1 (fnm (qt (pn (s.1.2.1)) (s.1.2.2)) (qn (s.1.2.1) (s.1.2.2))).2.2) 1)) 5)) (dP (qt (pn (s.1.2.1)) (s.1.2.2)) (rset (rset (s.2.2.2.2.1) 0 (fnm (qt (pn (s.1.2.1)) (s.1.2.2)) (qn (s.1.2.1) (s.1.2.2))).2.1) 1 (fnm (qt (pn (s.1.2.1)) (s.1.2.2)) (qn (s.1.2.1) (s.1.2.2))).2.2) (s.2.2.2.2.2.1) (s.2.2.2.2.2.2.1) (s.2.2.2.2.2.2.2.2) ((rset (rset (s.2.2.2.2.1) 0 (fnm (qt (pn (s.1.2.1)) (s.1.2.2)) (qn (s.1.2.1) (s.1.2.2))).2.1) 1 (fnm (qt (pn (s.1.2.1)) (s.1.2.2)) (qn (s.1.2.1) (s.1.2.2))).2.2) 0) ((rset (rset (s.2.2.2.2.1) 0 (fnm (qt (pn (s.1.2.1)) (s.1.2.2)) (qn (s.1.2.1) (s.1.2.2))).2.1) 1 (fnm (qt (pn (s.1.2.1)) (s.1.2.2)) (qn (s.1.2.1) (s.1.2.2))).2.2) 1))) 8) ((tkV (dV (qt (pn (s.1.2.1)) (s.1.2.2)) (rset (rset (s.2.2.2.2.1) 0 (fnm (qt (pn (s.1.2.1)) (s.1.2.2)) (qn (s.1.2.1) (s.1.2.2))).2.1) 1 (fnm (qt (pn (s.1.2.1)) (s.1.2.2)) (qn (s.1.2.1) (s.1.2.2))).2.2) (s.2.2.2.2.2.1) (s.2.2.2.2.2.2.1) (s.2.2.2.2.2.2.2.2) ((rset (rset (s.2.2.2.2.1) 0 (fnm (qt (pn (s.1.2.1)) (s.1.2.2)) (qn (s.1.2.1) (s.1.2.2))).2.1) 1 (fnm (qt (pn (s.1.2.1)) (s.1.2.2)) (qn (s.1.2.1) (s.1.2.2))).2.2) 0) ((rset (rset (s.2.2.2.2.1) 0 (fnm (qt (pn (s.1.2.1)) (s.1.2.2)) (qn (s.1.2.1) (s.1.2.2))).2.1) 1 (fnm (qt (pn (s.1.2.1)) (s.1.2.2)) (qn (s.1.2.1) (s.1.2.2))).2.2) 1)) (lwl (qt (pn (s.1.2.1)) (s.1.2.2)) (dB (qt (pn (s.1.2.1)) (s.1.2.2)) (rset (rset (s.2.2.2.2.1) 0 (fnm (qt (pn (s.1.2.1)) (s.1.2.2)) (qn (s.1.2.1) (s.1.2.2))).2.1) 1 (fnm (qt (pn (s.1.2.1)) (s.1.2.2)) (qn (s.1.2.1) (s.1.2.2))).2.2) (s.2.2.2.2.2.1) (s.2.2.2.2.2.2.1) (s.2.2.2.2.2.2.2.2) ((rset (rset (s.2.2.2.2.1) 0 (fnm (qt (pn (s.1.2.1)) (s.1.2.2)) (qn (s.1.2.1) (s.1.2.2))).2.1) 1 (fnm (qt (pn (s.1.2.1)) (s.1.2.2)) (qn (s.1.2.1) (s.1.2.2))).2.2) 0) ((rset (rset (s.2.2.2.2.1) 0 (fnm (qt (pn (s.1.2.1)) (s.1.2.2)) (qn (s.1.2.1) (s.1.2.2))).2.1) 1 (fnm (qt (pn (s.1.2.1)) (s.1.2.2)) (qn (s.1.2.1) (s.1.2.2))).2.2) 1)) (dN (qt (pn (s.1.2.1)) (s.1.2.2)) (rset (rset (s.2.2.2.2.1) 0 (fnm (qt (pn (s.1.2.1)) (s.1.2.2)) (qn (s.1.2.1) (s.1.2.2))).2.1) 1 (fnm (qt (pn (s.1.2.1)) (s.1.2.2)) (qn (s.1.2.1) (s.1.2.2))).2.2) (s.2.2.2.2.2.1) (s.2.2.2.2.2.2.1) (s.2.2.2.2.2.2.2.2) ((rset (rset (s.2.2.2.2.1) 0 (fnm (qt (pn (s.1.2.1)) (s.1.2.2)) (qn (s.1.2.1) (s.1.2.2))).2.1) 1 (fnm (qt (pn (s.1.2.1)) (s.1.2.2)) (qn (s.1.2.1) (s.1.2.2))).2.2) 0) ((rset (rset (s.2.2.2.2.1) 0 (fnm (qt (pn (s.1.2.1)) (s.1.2.2)) (qn (s.1.2.1) (s.1.2.2))).2.1) 1 (fnm (qt (pn (s.1.2.1)) (s.1.2.2)) (qn (s.1.2.1) (s.1.2.2))).2.2) 1)) (s.2.2.2.2.2.2.2.1) ((dV (qt (pn (s.1.2.1)) (s.1.2.2)) (rset (rset (s.2.2.2.2.1) 0 (fnm (qt (pn (s.1.2.1)) (s.1.2.2)) (qn (s.1.2.1) (s.1.2.2))).2.1) 1 (fnm (qt (pn (s.1.2.1)) (s.1.2.2)) (qn (s.1.2.1) (s.1.2.2))).2.2) (s.2.2.2.2.2.1) (s.2.2.2.2.2.2.1) (s.2.2.2.2.2.2.2.2) ((rset (rset (s.2.2.2.2.1) 0 (fnm (qt (pn (s.1.2.1)) (s.1.2.2)) (qn (s.1.2.1) (s.1.2.2))).2.1) 1 (fnm (qt (pn (s.1.2.1)) (s.1.2.2)) (qn (s.1.2.1) (s.1.2.2))).2.2) 0) ((rset (rset (s.2.2.2.2.1) 0 (fnm (qt (pn (s.1.2.1)) (s.1.2.2)) (qn (s.1.2.1) (s.1.2.2))).2.1) 1 (fnm (qt (pn (s.1.2.1)) (s.1.2.2)) (qn (s.1.2.1) (s.1.2.2))).2.2) 1)) 5)) (dP (qt (pn (s.1.2.1)) (s.1.2.2)) (rset (rset (s.2.2.2.2.1) 0 (fnm (qt (pn (s.1.2.1)) (s.1.2.2)) (qn (s.1.2.1) (s.1.2.2))).2.1) 1 (fnm (qt (pn (s.1.2.1)) (s.1.2.2)) (qn (s.1.2.1) (s.1.2.2))).2.2) (s.2.2.2.2.2.1) (s.2.2.2.2.2.2.1) (s.2.2.2.2.2.2.2.2) ((rset (rset (s.2.2.2.2.1) 0 (fnm (qt (pn (s.1.2.1)) (s.1.2.2)) (qn (s.1.2.1) (s.1.2.2))).2.1) 1 (fnm (qt (pn (s.1.2.1)) (s.1.2.2)) (qn (s.1.2.1) (s.1.2.2))).2.2) 0) ((rset (rset (s.2.2.2.2.1) 0 (fnm (qt (pn (s.1.2.1)) (s.1.2.2)) (qn (s.1.2.1) (s.1.2.2))).2.1) 1 (fnm (qt (pn (s.1.2.1)) (s.1.2.2)) (qn (s.1.2.1) (s.1.2.2))).2.2) 1))) 9) ((tkV (dV (qt (pn (s.1.2.1)) (s.1.2.2)) (rset (rset (s.2.2.2.2.1) 0 (fnm (qt (pn (s.1.2.1)) (s.1.2.2)) (qn (s.1.2.1) (s.1.2.2))).2.1) 1 (fnm (qt (pn (s.1.2.1)) (s.1.2.2)) (qn (s.1.2.1) (s.1.2.2))).2.2) (s.2.2.2.2.2.1) (s.2.2.2.2.2.2.1) (s.2.2.2.2.2.2.2.2) ((rset (rset (s.2.2.2.2.1) 0 (fnm (qt (pn (s.1.2.1)) (s.1.2.2)) (qn (s.1.2.1) (s.1.2.2))).2.1) 1 (fnm (qt (pn (s.1.2.1)) (s.1.2.2)) (qn (s.1.2.1) (s.1.2.2))).2.2) 0) ((rset (rset (s.2.2.2.2.1) 0 (fnm (qt (pn (s.1.2.1)) (s.1.2.2)) (qn (s.1.2.1) (s.1.2.2))).2.1) 1 (fnm (qt (pn (s.1.2.1)) (s.1.2.2)) (qn (s.1.2.1) (s.1.2.2))).2.2) 1)) (lwl (qt (pn (s.1.2.1)) (s.1.2.2)) (dB (qt (pn (s.1.2.1)) (s.1.2.2)) (rset (rset (s.2.2.2.2.1) 0 (fnm (qt (pn (s.1.2.1)) (s.1.2.2)) (qn (s.1.2.1) (s.1.2.2))).2.1) 1 (fnm (qt (pn (s.1.2.1)) (s.1.2.2)) (qn (s.1.2.1) (s.1.2.2))).2.2) (s.2.2.2.2.2.1) (s.2.2.2.2.2.2.1) (s.2.2.2.2.2.2.2.2) ((rset (rset (s.2.2.2.2.1) 0 (fnm (qt (pn (s.1.2.1)) (s.1.2.2)) (qn (s.1.2.1) (s.1.2.2))).2.1) 1 (fnm (qt (pn (s.1.2.1)) (s.1.2.2)) (qn (s.1.2.1) (s.1.2.2))).2.2) 0) ((rset (rset (s.2.2.2.2.1) 0 (fnm (qt (pn (s.1.2.1)) (s.1.2.2)) (qn (s.1.2.1) (s.1.2.2))).2.1) 1 (fnm (qt (pn (s.1.2.1)) (s.1.2.2)) (qn (s.1.2.1) (s.1.2.2))).2.2) 1)) (dN (qt (pn (s.1.2.1)) (s.1.2.2)) (rset (rset (s.2.2.2.2.1) 0 (fnm (qt (pn (s.1.2.1)) (s.1.2.2)) (qn (s.1.2.1) (s.1.2.2))).2.1) 1 (fnm (qt (pn (s.1.2.1)) (s.1.2.2)) (qn (s.1.2.1) (s.1.2.2))).2.2) (s.2.2.2.2.2.1) (s.2.2.2.2.2.2.1) (s.2.2.2.2.2.2.2.2) ((rset (rset (s.2.2.2.2.1) 0 (fnm (qt (pn (s.1.2.1)) (s.1.2.2)) (qn (s.1.2.1) (s.1.2.2))).2.1) 1 (fnm (qt (pn (s.1.2.1)) (s.1.2.2)) (qn (s.1.2.1) (s.1.2.2))).2.2) 0) ((rset (rset (s.2.2.2.2.1) 0 (fnm (qt (pn (s.1.2.1)) (s.1.2.2)) (qn (s.1.2.1) (s.1.2.2))).2.1) 1 (fnm (qt (pn (s.1.2.1)) (s.1.2.2)) (qn (s.1.2.1) (s.1.2.2))).2.2) 1)) (s.2.2.2.2.2.2.2.1) ((dV (qt (pn (s.1.2.1)) (s.1.2.2)) (rset (rset (s.2.2.2.2.1) 0 (fnm (qt (pn (s.1.2.1)) (s.1.2.2)) (qn (s.1.2.1) (s.1.2.2))).2.1) 1 (fnm (qt (pn (s.1.2.1)) (s.1.2.2)) (qn (s.1.2.1) (s.1.2.2))).2.2) (s.2.2.2.2.2.1) (s.2.2.2.2.2.2.1) (s.2.2.2.2.2.2.2.2) ((rset (rset (s.2.2.2.2.1) 0 (fnm (qt (pn (s.1.2.1)) (s.1.2.2)) (qn (s.1.2.1) (s.1.2.2))).2.1) 1 (fnm (qt (pn (s.1.2.1)) (s.1.2.2)) (qn (s.1.2.1) (s.1.2.2))).2.2) 0) ((rset (rset (s.2.2.2.2.1) 0 (fnm (qt (pn (s.1.2.1)) (s.1.2.2)) (qn (s.1.2.1) (s.1.2.2))).2.1) 1 (fnm (qt (pn (s.1.2.1)) (s.1.2.2)) (qn (s.1.2.1) (s.1.2.2))).2.2) 1)) 5)) (dP (qt (pn (s.1.2.1)) (s.1.2.2)) (rset (rset (s.2.2.2.2.1) 0 (fnm (qt (pn (s.1.2.1)) (s.1.2.2)) (qn (s.1.2.1) (s.1.2.2))).2.1) 1 (fnm (qt (pn (s.1.2.1)) (s.1.2.2)) (qn (s.1.2.1) (s.1.2.2))).2.2) (s.2.2.2.2.2.1) (s.2.2.2.2.2.2.1) (s.2.2.2.2.2.2.2.2) ((rset (rset (s.2.2.2.2.1) 0 (fnm (qt (pn (s.1.2.1)) (s.1.2.2)) (qn (s.1.2.1) (s.1.2.2))).2.1) 1 (fnm (qt (pn (s.1.2.1)) (s.1.2.2)) (qn (s.1.2.1) (s.1.2.2))).2.2) 0) ((rset (rset (s.2.2.2.2.1) 0 (fnm (qt (pn (s.1.2.1)) (s.1.2.2)) (qn (s.1.2.1) (s.1.2.2))).2.1) 1 (fnm (qt (pn (s.1.2.1)) (s.1.2.2)) (qn (s.1.2.1) (s.1.2.2))).2.2) 1))) 10) ((tkV (dV (qt (pn (s.1.2.1)) (s.1.2.2)) (rset (rset (s.2.2.2.2.1) 0 (fnm (qt (pn (s.1.2.1)) (s.1.2.2)) (qn (s.1.2.1) (s.1.2.2))).2.1) 1 (fnm (qt (pn (s.1.2.1)) (s.1.2.2)) (qn (s.1.2.1) (s.1.2.2))).2.2) (s.2.2.2.2.2.1) (s.2.2.2.2.2.2.1) (s.2.2.2.2.2.2.2.2) ((rset (rset (s.2.2.2.2.1) 0 (fnm (qt (pn (s.1.2.1)) (s.1.2.2)) (qn (s.1.2.1) (s.1.2.2))).2.1) 1 (fnm (qt (pn (s.1.2.1)) (s.1.2.2)) (qn (s.1.2.1) (s.1.2.2))).2.2) 0) ((rset (rset (s.2.2.2.2.1) 0 (fnm (qt (pn (s.1.2.1)) (s.1.2.2)) (qn (s.1.2.1) (s.1.2.2))).2.1) 1 (fnm (qt (pn (s.1.2.1)) (s.1.2.2)) (qn (s.1.2.1) (s.1.2.2))).2.2) 1)) (lwl (qt (pn (s.1.2.1)) (s.1.2.2)) (dB (qt (pn (s.1.2.1)) (s.1.2.2)) (rset (rset (s.2.2.2.2.1) 0 (fnm (qt (pn (s.1.2.1)) (s.1.2.2)) (qn (s.1.2.1) (s.1.2.2))).2.1) 1 (fnm (qt (pn (s.1.2.1)) (s.1.2.2)) (qn (s.1.2.1) (s.1.2.2))).2.2) (s.2.2.2.2.2.1) (s.2.2.2.2.2.2.1) (s.2.2.2.2.2.2.2.2) ((rset (rset (s.2.2.2.2.1) 0 (fnm (qt (pn (s.1.2.1)) (s.1.2.2)) (qn (s.1.2.1) (s.1.2.2))).2.1) 1 (fnm (qt (pn (s.1.2.1)) (s.1.2.2)) (qn (s.1.2.1) (s.1.2.2))).2.2) 0) ((rset (rset (s.2.2.2.2.1) 0 (fnm (qt (pn (s.1.2.1)) (s.1.2.2)) (qn (s.1.2.1) (s.1.2.2))).2.1) 1 (fnm (qt (pn (s.1.2.1)) (s.1.2.2)) (qn (s.1.2.1) (s.1.2.2))).2.2) 1)) (dN (qt (pn (s.1.2.1)) (s.1.2.2)) (rset (rset (s.2.2.2.2.1) 0 (fnm (qt (pn (s.1.2.1)) (s.1.2.2)) (qn (s.1.2.1) (s.1.2.2))).2.1) 1 (fnm (qt (pn (s.1.2.1)) (s.1.2.2)) (qn (s.1.2.1) (s.1.2.2))).2.2) (s.2.2.2.2.2.1) (s.2.2.2.2.2.2.1) (s.2.2.2.2.2.2.2.2) ((rset (rset (s.2.2.2.2.1) 0 (fnm (qt (pn (s.1.2.1)) (s.1.2.2)) (qn (s.1.2.1) (s.1.2.2))).2.1) 1 (fnm (qt (pn (s.1.2.1)) (s.1.2.2)) (qn (s.1.2.1) (s.1.2.2))).2.2) 0) ((rset (rset (s.2.2.2.2.1) 0 (fnm (qt (pn (s.1.2.1)) (s.1.2.2)) (qn (s.1.2.1) (s.1.2.2))).2.1) 1 (fnm (qt (pn (s.1.2.1)) (s.1.2.2)) (qn (s.1.2.1) (s.1.2.2))).2.2) 1)) (s.2.2.2.2.2.2.2.1) ((dV (qt (pn (s.1.2.1)) (s.1.2.2)) (rset (rset (s.2.2.2.2.1) 0 (fnm (qt (pn (s.1.2.1)) (s.1.2.2)) (qn (s.1.2.1) (s.1.2.2))).2.1) 1 (fnm (qt (pn (s.1.2.1)) (s.1.2.2)) (qn (s.1.2.1) (s.1.2.2))).2.2) (s.2.2.2.2.2.1) (s.2.2.2.2.2.2.1) (s.2.2.2.2.2.2.2.2) ((rset (rset (s.2.2.2.2.1) 0 (fnm (qt (pn (s.1.2.1)) (s.1.2.2)) (qn (s.1.2.1) (s.1.2.2))).2.1) 1 (fnm (qt (pn (s.1.2.1)) (s.1.2.2)) (qn (s.1.2.1) (s.1.2.2))).2.2) 0) ((rset (rset (s.2.2.2.2.1) 0 (fnm (qt (pn (s.1.2.1)) (s.1.2.2)) (qn (s.1.2.1) (s.1.2.2))).2.1) 1 (fnm (qt (pn (s.1.2.1)) (s.1.2.2)) (qn (s.1.2.1) (s.1.2.2))).2.2) 1)) 5)) (dP (qt (pn (s.1.2.1)) (s.1.2.2)) (rset (rset (s.2.2.2.2.1) 0 (fnm (qt (pn (s.1.2.1)) (s.1.2.2)) (qn (s.1.2.1) (s.1.2.2))).2.1) 1 (fnm (qt (pn (s.1.2.1)) (s.1.2.2)) (qn (s.1.2.1) (s.1.2.2))).2.2) (s.2.2.2.2.2.1) (s.2.2.2.2.2.2.1) (s.2.2.2.2.2.2.2.2) ((rset (rset (s.2.2.2.2.1) 0 (fnm (qt (pn (s.1.2.1)) (s.1.2.2)) (qn (s.1.2.1) (s.1.2.2))).2.1) 1 (fnm (qt (pn (s.1.2.1)) (s.1.2.2)) (qn (s.1.2.1) (s.1.2.2))).2.2) 0) ((rset (rset (s.2.2.2.2.1) 0 (fnm (qt (pn (s.1.2.1)) (s.1.2.2)) (qn (s.1.2.1) (s.1.2.2))).2.1) 1 (fnm (qt (pn (s.1.2.1)) (s.1.2.2)) (qn (s.1.2.1) (s.1.2.2))).2.2) 1))) 11) ((tkV (dV (qt (pn (s.1.2.1)) (s.1.2.2)) (rset (rset (s.2.2.2.2.1) 0 (fnm (qt (pn (s.1.2.1)) (s.1.2.2)) (qn (s.1.2.1) (s.1.2.2))).2.1) 1 (fnm (qt (pn (s.1.2.1)) (s.1.2.2)) (qn (s.1.2.1) (s.1.2.2))).2.2) (s.2.2.2.2.2.1) (s.2.2.2.2.2.2.1) (s.2.2.2.2.2.2.2.2) ((rset (rset (s.2.2.2.2.1) 0 (fnm (qt (pn (s.1.2.1)) (s.1.2.2)) (qn (s.1.2.1) (s.1.2.2))).2.1) 1 (fnm (qt (pn (s.1.2.1)) (s.1.2.2)) (qn (s.1.2.1) (s.1.2.2))).2.2) 0) ((rset (rset (s.2.2.2.2.1) 0 (fnm (qt (pn (s.1.2.1)) (s.1.2.2)) (qn (s.1.2.1) (s.1.2.2))).2.1) 1 (fnm (qt (pn (s.1.2.1)) (s.1.2.2)) (qn (s.1.2.1) (s.1.2.2))).2.2) 1)) (lwl (qt (pn (s.1.2.1)) (s.1.2.2)) (dB (qt (pn (s.1.2.1)) (s.1.2.2)) (rset (rset (s.2.2.2.2.1) 0 (fnm (qt (pn (s.1.2.1)) (s.1.2.2)) (qn (s.1.2.1) (s.1.2.2))).2.1) 1 (fnm (qt (pn (s.1.2.1)) (s.1.2.2)) (qn (s.1.2.1) (s.1.2.2))).2.2) (s.2.2.2.2.2.1) (s.2.2.2.2.2.2.1) (s.2.2.2.2.2.2.2.2) ((rset (rset (s.2.2.2.2.1) 0 (fnm (qt (pn (s.1.2.1)) (s.1.2.2)) (qn (s.1.2.1) (s.1.2.2))).2.1) 1 (fnm (qt (pn (s.1.2.1)) (s.1.2.2)) (qn (s.1.2.1) (s.1.2.2))).2.2) 0) ((rset (rset (s.2.2.2.2.1) 0 (fnm (qt (pn (s.1.2.1)) (s.1.2.2)) (qn (s.1.2.1) (s.1.2.2))).2.1) 1 (fnm (qt (pn (s.1.2.1)) (s.1.2.2)) (qn (s.1.2.1) (s.1.2.2))).2.2) 1)) (dN (qt (pn (s.1.2.1)) (s.1.2.2)) (rset (rset (s.2.2.2.2.1) 0 (fnm (qt (pn (s.1.2.1)) (s.1.2.2)) (qn (s.1.2.1) (s.1.2.2))).2.1) 1 (fnm (qt (pn (s.1.2.1)) (s.1.2.2)) (qn (s.1.2.1) (s.1.2.2))).2.2) (s.2.2.2.2.2.1) (s.2.2.2.2.2.2.1) (s.2.2.2.2.2.2.2.2) ((rset (rset (s.2.2.2.2.1) 0 (fnm (qt (pn (s.1.2.1)) (s.1.2.2)) (qn (s.1.2.1) (s.1.2.2))).2.1) 1 (fnm (qt (pn (s.1.2.1)) (s.1.2.2)) (qn (s.1.2.1) (s.1.2.2))).2.2) 0) ((rset (rset (s.2.2.2.2.1) 0 (fnm (qt (pn (s.1.2.1)) (s.1.2.2)) (qn (s.1.2.1) (s.1.2.2))).2.1) 1 (fnm (qt (pn (s.1.2.1)) (s.1.2.2)) (qn (s.1.2.1) (s.1.2.2))).2.2) 1)) (s.2.2.2.2.2.2.2.1) ((dV (qt (pn (s.1.2.1)) (s.1.2.2)) (rset (rset (s.2.2.2.2.1) 0 (fnm (qt (pn (s.1.2.1)) (s.1.2.2)) (qn (s.1.2.1) (s.1.2.2))).2.1) 1 (fnm (qt (pn (s.1.2.1)) (s.1.2.2)) (qn (s.1.2.1) (s.1.2.2))).2.2) (s.2.2.2.2.2.1) (s.2.2.2.2.2.2.1) (s.2.2.2.2.2.2.2.2) ((rset (rset (s.2.2.2.2.1) 0 (fnm (qt (pn (s.1.2.1)) (s.1.2.2)) (qn (s.1.2.1) (s.1.2.2))).2.1) 1 (fnm (qt (pn (s.1.2.1)) (s.1.2.2)) (qn (s.1.2.1) (s.1.2.2))).2.2) 0) ((rset (rset (s.2.2.2.2.1) 0 (fnm (qt (pn (s.1.2.1)) (s.1.2.2)) (qn (s.1.2.1) (s.1.2.2))).2.1) 1 (fnm (qt (pn (s.1.2.1)) (s.1.2.2)) (qn (s.1.2.1) (s.1.2.2))).2.2) 1)) 5)) (dP (qt (pn (s.1.2.1)) (s.1.2.2)) (rset (rset (s.2.2.2.2.1) 0 (fnm (qt (pn (s.1.2.1)) (s.1.2.2)) (qn (s.1.2.1) (s.1.2.2))).2.1) 1 (fnm (qt (pn (s.1.2.1)) (s.1.2.2)) (qn (s.1.2.1) (s.1.2.2))).2.2) (s.2.2.2.2.2.1) (s.2.2.2.2.2.2.1) (s.2.2.2.2.2.2.2.2) ((rset (rset (s.2.2.2.2.1) 0 (fnm (qt (pn (s.1.2.1)) (s.1.2.2)) (qn (s.1.2.1) (s.1.2.2))).2.1) 1 (fnm (qt (pn (s.1.2.1)) (s.1.2.2)) (qn (s.1.2.1) (s.1.2.2))).2.2) 0) ((rset (rset (s.2.2.2.2.1) 0 (fnm (qt (pn (s.1.2.1)) (s.1.2.2)) (qn (s.1.2.1) (s.1.2.2))).2.1) 1 (fnm (qt (pn (s.1.2.1)) (s.1.2.2)) (qn (s.1.2.1) (s.1.2.2))).2.2) 1))) 12) ((tkV (dV (qt (pn (s.1.2.1)) (s.1.2.2)) (rset (rset (s.2.2.2.2.1) 0 (fnm (qt (pn (s.1.2.1)) (s.1.2.2)) (qn (s.1.2.1) (s.1.2.2))).2.1) 1 (fnm (qt (pn (s.1.2.1)) (s.1.2.2)) (qn (s.1.2.1) (s.1.2.2))).2.2) (s.2.2.2.2.2.1) (s.2.2.2.2.2.2.1) (s.2.2.2.2.2.2.2.2) ((rset (rset (s.2.2.2.2.1) 0 (fnm (qt (pn (s.1.2.1)) (s.1.2.2)) (qn (s.1.2.1) (s.1.2.2))).2.1) 1 (fnm (qt (pn (s.1.2.1)) (s.1.2.2)) (qn (s.1.2.1) (s.1.2.2))).2.2) 0) ((rset (rset (s.2.2.2.2.1) 0 (fnm (qt (pn (s.1.2.1)) (s.1.2.2)) (qn (s.1.2.1) (s.1.2.2))).2.1) 1 (fnm (qt (pn (s.1.2.1)) (s.1.2.2)) (qn (s.1.2.1) (s.1.2.2))).2.2) 1)) (lwl (qt (pn (s.1.2.1)) (s.1.2.2)) (dB (qt (pn (s.1.2.1)) (s.1.2.2)) (rset (rset (s.2.2.2.2.1) 0 (fnm (qt (pn (s.1.2.1)) (s.1.2.2)) (qn (s.1.2.1) (s.1.2.2))).2.1) 1 (fnm (qt (pn (s.1.2.1)) (s.1.2.2)) (qn (s.1.2.1) (s.1.2.2))).2.2) (s.2.2.2.2.2.1) (s.2.2.2.2.2.2.1) (s.2.2.2.2.2.2.2.2) ((rset (rset (s.2.2.2.2.1) 0 (fnm (qt (pn (s.1.2.1)) (s.1.2.2)) (qn (s.1.2.1) (s.1.2.2))).2.1) 1 (fnm (qt (pn (s.1.2.1)) (s.1.2.2)) (qn (s.1.2.1) (s.1.2.2))).2.2) 0) ((rset (rset (s.2.2.2.2.1) 0 (fnm (qt (pn (s.1.2.1)) (s.1.2.2)) (qn (s.1.2.1) (s.1.2.2))).2.1) 1 (fnm (qt (pn (s.1.2.1)) (s.1.2.2)) (qn (s.1.2.1) (s.1.2.2))).2.2) 1)) (dN (qt (pn (s.1.2.1)) (s.1.2.2)) (rset (rset (s.2.2.2.2.1) 0 (fnm (qt (pn (s.1.2.1)) (s.1.2.2)) (qn (s.1.2.1) (s.1.2.2))).2.1) 1 (fnm (qt (pn (s.1.2.1)) (s.1.2.2)) (qn (s.1.2.1) (s.1.2.2))).2.2) (s.2.2.2.2.2.1) (s.2.2.2.2.2.2.1) (s.2.2.2.2.2.2.2.2) ((rset (rset (s.2.2.2.2.1) 0 (fnm (qt (pn (s.1.2.1)) (s.1.2.2)) (qn (s.1.2.1) (s.1.2.2))).2.1) 1 (fnm (qt (pn (s.1.2.1)) (s.1.2.2)) (qn (s.1.2.1) (s.1.2.2))).2.2) 0) ((rset (rset (s.2.2.2.2.1) 0 (fnm (qt (pn (s.1.2.1)) (s.1.2.2)) (qn (s.1.2.1) (s.1.2.2))).2.1) 1 (fnm (qt (pn (s.1.2.1)) (s.1.2.2)) (qn (s.1.2.1) (s.1.2.2))).2.2) 1)) (s.2.2.2.2.2.2.2.1) ((dV (qt (pn (s.1.2.1)) (s.1.2.2)) (rset (rset (s.2.2.2.2.1) 0 (fnm (qt (pn (s.1.2.1)) (s.1.2.2)) (qn (s.1.2.1) (s.1.2.2))).2.1) 1 (fnm (qt (pn (s.1.2.1)) (s.1.2.2)) (qn (s.1.2.1) (s.1.2.2))).2.2) (s.2.2.2.2.2.1) (s.2.2.2.2.2.2.1) (s.2.2.2.2.2.2.2.2) ((rset (rset (s.2.2.2.2.1) 0 (fnm (qt (pn (s.1.2.1)) (s.1.2.2)) (qn (s.1.2.1) (s.1.2.2))).2.1) 1 (fnm (qt (pn (s.1.2.1)) (s.1.2.2)) (qn (s.1.2.1) (s.1.2.2))).2.2) 0) ((rset (rset (s.2.2.2.2.1) 0 (fnm (qt (pn (s.1.2.1)) (s.1.2.2)) (qn (s.1.2.1) (s.1.2.2))).2.1) 1 (fnm (qt (pn (s.1.2.1)) (s.1.2.2)) (qn (s.1.2.1) (s.1.2.2))).2.2) 1)) 5)) (dP (qt (pn (s.1.2.1)) (s.1.2.2)) (rset (rset (s.2.2.2.2.1) 0 (fnm (qt (pn (s.1.2.1)) (s.1.2.2)) (qn (s.1.2.1) (s.1.2.2))).2.1) 1 (fnm (qt (pn (s.1.2.1)) (s.1.2.2)) (qn (s.1.2.1) (s.1.2.2))).2.2) (s.2.2.2.2.2.1) (s.2.2.2.2.2.2.1) (s.2.2.2.2.2.2.2.2) ((rset (rset (s.2.2.2.2.1) 0 (fnm (qt (pn (s.1.2.1)) (s.1.2.2)) (qn (s.1.2.1) (s.1.2.2))).2.1) 1 (fnm (qt (pn (s.1.2.1)) (s.1.2.2)) (qn (s.1.2.1) (s.1.2.2))).2.2) 0) ((rset (rset (s.2.2.2.2.1) 0 (fnm (qt (pn (s.1.2.1)) (s.1.2.2)) (qn (s.1.2.1) (s.1.2.2))).2.1) 1 (fnm (qt (pn (s.1.2.1)) (s.1.2.2)) (qn (s.1.2.1) (s.1.2.2))).2.2) 1))) 13) ((tkV (dV (qt (pn (s.1.2.1)) (s.1.2.2)) (rset (rset (s.2.2.2.2.1) 0 (fnm (qt (pn (s.1.2.1)) (s.1.2.2)) (qn (s.1.2.1) (s.1.2.2))).2.1) 1 (fnm (qt (pn (s.1.2.1)) (s.1.2.2)) (qn (s.1.2.1) (s.1.2.2))).2.2) (s.2.2.2.2.2.1) (s.2.2.2.2.2.2.1) (s.2.2.2.2.2.2.2.2) ((rset (rset (s.2.2.2.2.1) 0 (fnm (qt (pn (s.1.2.1)) (s.1.2.2)) (qn (s.1.2.1) (s.1.2.2))).2.1) 1 (fnm (qt (pn (s.1.2.1)) (s.1.2.2)) (qn (s.1.2.1) (s.1.2.2))).2.2) 0) ((rset (rset (s.2.2.2.2.1) 0 (fnm (qt (pn (s.1.2.1)) (s.1.2.2)) (qn (s.1.2.1) (s.1.2.2))).2.1) 1 (fnm (qt (pn (s.1.2.1)) (s.1.2.2)) (qn (s.1.2.1) (s.1.2.2))).2.2) 1)) (lwl (qt (pn (s.1.2.1)) (s.1.2.2)) (dB (qt (pn (s.1.2.1)) (s.1.2.2)) (rset (rset (s.2.2.2.2.1) 0 (fnm (qt (pn (s.1.2.1)) (s.1.2.2)) (qn (s.1.2.1) (s.1.2.2))).2.1) 1 (fnm (qt (pn (s.1.2.1)) (s.1.2.2)) (qn (s.1.2.1) (s.1.2.2))).2.2) (s.2.2.2.2.2.1) (s.2.2.2.2.2.2.1) (s.2.2.2.2.2.2.2.2) ((rset (rset (s.2.2.2.2.1) 0 (fnm (qt (pn (s.1.2.1)) (s.1.2.2)) (qn (s.1.2.1) (s.1.2.2))).2.1) 1 (fnm (qt (pn (s.1.2.1)) (s.1.2.2)) (qn (s.1.2.1) (s.1.2.2))).2.2) 0) ((rset (rset (s.2.2.2.2.1) 0 (fnm (qt (pn (s.1.2.1)) (s.1.2.2)) (qn (s.1.2.1) (s.1.2.2))).2.1) 1 (fnm (qt (pn (s.1.2.1)) (s.1.2.2)) (qn (s.1.2.1) (s.1.2.2))).2.2) 1)) (dN (qt (pn (s.1.2.1)) (s.1.2.2)) (rset (rset (s.2.2.2.2.1) 0 (fnm (qt (pn (s.1.2.1)) (s.1.2.2)) (qn (s.1.2.1) (s.1.2.2))).2.1) 1 (fnm (qt (pn (s.1.2.1)) (s.1.2.2)) (qn (s.1.2.1) (s.1.2.2))).2.2) (s.2.2.2.2.2.1) (s.2.2.2.2.2.2.1) (s.2.2.2.2.2.2.2.2) ((rset (rset (s.2.2.2.2.1) 0 (fnm (qt (pn (s.1.2.1)) (s.1.2.2)) (qn (s.1.2.1) (s.1.2.2))).2.1) 1 (fnm (qt (pn (s.1.2.1)) (s.1.2.2)) (qn (s.1.2.1) (s.1.2.2))).2.2) 0) ((rset (rset (s.2.2.2.2.1) 0 (fnm (qt (pn (s.1.2.1)) (s.1.2.2)) (qn (s.1.2.1) (s.1.2.2))).2.1) 1 (fnm (qt (pn (s.1.2.1)) (s.1.2.2)) (qn (s.1.2.1) (s.1.2.2))).2.2) 1)) (s.2.2.2.2.2.2.2.1) ((dV (qt (pn (s.1.2.1)) (s.1.2.2)) (rset (rset (s.2.2.2.2.1) 0 (fnm (qt (pn (s.1.2.1)) (s.1.2.2)) (qn (s.1.2.1) (s.1.2.2))).2.1) 1 (fnm (qt (pn (s.1.2.1)) (s.1.2.2)) (qn (s.1.2.1) (s.1.2.2))).2.2) (s.2.2.2.2.2.1) (s.2.2.2.2.2.2.1) (s.2.2.2.2.2.2.2.2) ((rset (rset (s.2.2.2.2.1) 0 (fnm (qt (pn (s.1.2.1)) (s.1.2.2)) (qn (s.1.2.1) (s.1.2.2))).2.1) 1 (fnm (qt (pn (s.1.2.1)) (s.1.2.2)) (qn (s.1.2.1) (s.1.2.2))).2.2) 0) ((rset (rset (s.2.2.2.2.1) 0 (fnm (qt (pn (s.1.2.1)) (s.1.2.2)) (qn (s.1.2.1) (s.1.2.2))).2.1) 1 (fnm (qt (pn (s.1.2.1)) (s.1.2.2)) (qn (s.1.2.1) (s.1.2.2))).2.2) 1)) 5)) (dP (qt (pn (s.1.2.1)) (s.1.2.2)) (rset (rset (s.2.2.2.2.1) 0 (fnm (qt (pn (s.1.2.1)) (s.1.2.2)) (qn (s.1.2.1) (s.1.2.2))).2.1) 1 (fnm (qt (pn (s.1.2.1)) (s.1.2.2)) (qn (s.1.2.1) (s.1.2.2))).2.2) (s.2.2.2.2.2.1) (s.2.2.2.2.2.2.1) (s.2.2.2.2.2.2.2.2) ((rset (rset (s.2.2.2.2.1) 0 (fnm (qt (pn (s.1.2.1)) (s.1.2.2)) (qn (s.1.2.1) (s.1.2.2))).2.1) 1 (fnm (qt (pn (s.1.2.1)) (s.1.2.2)) (qn (s.1.2.1) (s.1.2.2))).2.2) 0) ((rset (rset (s.2.2.2.2.1) 0 (fnm (qt (pn (s.1.2.1)) (s.1.2.2)) (qn (s.1.2.1) (s.1.2.2))).2.1) 1 (fnm (qt (pn (s.1.2.1)) (s.1.2.2)) (qn (s.1.2.1) (s.1.2.2))).2.2) 1))) 14) ((tkV (dV (qt (pn (s.1.2.1)) (s.1.2.2)) (rset (rset (s.2.2.2.2.1) 0 (fnm (qt (pn (s.1.2.1)) (s.1.2.2)) (qn (s.1.2.1) (s.1.2.2))).2.1) 1 (fnm (qt (pn (s.1.2.1)) (s.1.2.2)) (qn (s.1.2.1) (s.1.2.2))).2.2) (s.2.2.2.2.2.1) (s.2.2.2.2.2.2.1) (s.2.2.2.2.2.2.2.2) ((rset (rset (s.2.2.2.2.1) 0 (fnm (qt (pn (s.1.2.1)) (s.1.2.2)) (qn (s.1.2.1) (s.1.2.2))).2.1) 1 (fnm (qt (pn (s.1.2.1)) (s.1.2.2)) (qn (s.1.2.1) (s.1.2.2))).2.2) 0) ((rset (rset (s.2.2.2.2.1) 0 (fnm (qt (pn (s.1.2.1)) (s.1.2.2)) (qn (s.1.2.1) (s.1.2.2))).2.1) 1 (fnm (qt (pn (s.1.2.1)) (s.1.2.2)) (qn (s.1.2.1) (s.1.2.2))).2.2) 1)) (lwl (qt (pn (s.1.2.1)) (s.1.2.2)) (dB (qt (pn (s.1.2.1)) (s.1.2.2)) (rset (rset (s.2.2.2.2.1) 0 (fnm (qt (pn (s.1.2.1)) (s.1.2.2)) (qn (s.1.2.1) (s.1.2.2))).2.1) 1 (fnm (qt (pn (s.1.2.1)) (s.1.2.2)) (qn (s.1.2.1) (s.1.2.2))).2.2) (s.2.2.2.2.2.1) (s.2.2.2.2.2.2.1) (s.2.2.2.2.2.2.2.2) ((rset (rset (s.2.2.2.2.1) 0 (fnm (qt (pn (s.1.2.1)) (s.1.2.2)) (qn (s.1.2.1) (s.1.2.2))).2.1) 1 (fnm (qt (pn (s.1.2.1)) (s.1.2.2)) (qn (s.1.2.1) (s.1.2.2))).2.2) 0) ((rset (rset (s.2.2.2.2.1) 0 (fnm (qt (pn (s.1.2.1)) (s.1.2.2)) (qn (s.1.2.1) (s.1.2.2))).2.1) 1 (fnm (qt (pn (s.1.2.1)) (s.1.2.2)) (qn (s.1.2.1) (s.1.2.2))).2.2) 1)) (dN (qt (pn (s.1.2.1)) (s.1.2.2)) (rset (rset (s.2.2.2.2.1) 0 (fnm (qt (pn (s.1.2.1)) (s.1.2.2)) (qn (s.1.2.1) (s.1.2.2))).2.1) 1 (fnm (qt (pn (s.1.2.1)) (s.1.2.2)) (qn (s.1.2.1) (s.1.2.2))).2.2) (s.2.2.2.2.2.1) (s.2.2.2.2.2.2.1) (s.2.2.2.2.2.2.2.2) ((rset (rset (s.2.2.2.2.1) 0 (fnm (qt (pn (s.1.2.1)) (s.1.2.2)) (qn (s.1.2.1) (s.1.2.2))).2.1) 1 (fnm (qt (pn (s.1.2.1)) (s.1.2.2)) (qn (s.1.2.1) (s.1.2.2))).2.2) 0) ((rset (rset (s.2.2.2.2.1) 0 (fnm (qt (pn (s.1.2.1)) (s.1.2.2)) (qn (s.1.2.1) (s.1.2.2))).2.1) 1 (fnm (qt (pn (s.1.2.1)) (s.1.2.2)) (qn (s.1.2.1) (s.1.2.2))).2.2) 1)) (s.2.2.2.2.2.2.2.1) ((dV (qt (pn (s.1.2.1)) (s.1.2.2)) (rset (rset (s.2.2.2.2.1) 0 (fnm (qt (pn (s.1.2.1)) (s.1.2.2)) (qn (s.1.2.1) (s.1.2.2))).2.1) 1 (fnm (qt (pn (s.1.2.1)) (s.1.2.2)) (qn (s.1.2.1) (s.1.2.2))).2.2) (s.2.2.2.2.2.1) (s.2.2.2.2.2.2.1) (s.2.2.2.2.2.2.2.2) ((rset (rset (s.2.2.2.2.1) 0 (fnm (qt (pn (s.1.2.1)) (s.1.2.2)) (qn (s.1.2.1) (s.1.2.2))).2.1) 1 (fnm (qt (pn (s.1.2.1)) (s.1.2.2)) (qn (s.1.2.1) (s.1.2.2))).2.2) 0) ((rset (rset (s.2.2.2.2.1) 0 (fnm (qt (pn (s.1.2.1)) (s.1.2.2)) (qn (s.1.2.1) (s.1.2.2))).2.1) 1 (fnm (qt (pn (s.1.2.1)) (s.1.2.2)) (qn (s.1.2.1) (s.1.2.2))).2.2) 1)) 5)) (dP (qt (pn (s.1.2.1)) (s.1.2.2)) (rset (rset (s.2.2.2.2.1) 0 (fnm (qt (pn (s.1.2.1)) (s.1.2.2)) (qn (s.1.2.1) (s.1.2.2))).2.1) 1 (fnm (qt (pn (s.1.2.1)) (s.1.2.2)) (qn (s.1.2.1) (s.1.2.2))).2.2) (s.2.2.2.2.2.1) (s.2.2.2.2.2.2.1) (s.2.2.2.2.2.2.2.2) ((rset (rset (s.2.2.2.2.1) 0 (fnm (qt (pn (s.1.2.1)) (s.1.2.2)) (qn (s.1.2.1) (s.1.2.2))).2.1) 1 (fnm (qt (pn (s.1.2.1)) (s.1.2.2)) (qn (s.1.2.1) (s.1.2.2))).2.2) 0) ((rset (rset (s.2.2.2.2.1) 0 (fnm (qt (pn (s.1.2.1)) (s.1.2.2)) (qn (s.1.2.1) (s.1.2.2))).2.1) 1 (fnm (qt (pn (s.1.2.1)) (s.1.2.2)) (qn (s.1.2.1) (s.1.2.2))).2.2) 1))) 15) (x % 4), U1, U2, rd39⟩, fr41⟩
      · skip
        refine go_tabIn (off := 140) (tgt := 214) X d_Machine_workOnText_74 (by omega) (by omega) (by omega) (by rw [ht12]; rfl) rfl ?_
        exfalso
        omega
      · skip
        refine go_tabIn (off := 160) (tgt := 234) X d_Machine_workOnText_74 (by omega) (by omega) (by omega) (by rw [ht12]; rfl) rfl ?_
        exfalso
        omega
      · skip
        refine go_tabIn (off := 53) (tgt := 127) X d_Machine_workOnText_74 (by omega) (by omega) (by omega) (by rw [ht12]; rfl) rfl ?_
        exfalso
        omega
      · skip
        refine go_tabIn (off := 174) (tgt := 248) X d_Machine_workOnText_74 (by omega) (by omega) (by omega) (by rw [ht12]; rfl) rfl ?_
        exfalso
        omega
    · skip
      refine go_iload_n X d_Machine_workOnText_25 rfl rfl ?_
      refine go_bipush (v := 28) X d_Machine_workOnText_26 (by decide) ?_
      refine go_icmp_eq (tgt := 37) X d_Machine_workOnText_28 rfl (by omega) (by omega) (fun hq42 => ?_) (fun hq42 => ?_)
      · skip
        refine go_iconst (v := 1) X d_Machine_workOnText_37 ?_
        refine go_goto (tgt := 42) X d_Machine_workOnText_38 rfl ?_
        refine go_istore (lv' := [(5, vi 1), (4, vi 0), (0, vr (o + 225)), (1, vi op), (2, vl x)]) X d_Machine_workOnText_42 (by decide) rfl ?_
        refine go_iload X d_Machine_workOnText_44 rfl ?_
        refine go_if_eq (tgt := 59) X d_Machine_workOnText_46 rfl (by omega) (fun h9 => absurd h9 (by decide)) (fun _ => ?_)
        refine go_aload_n X d_Machine_workOnText_49 rfl rfl ?_
        refine go_get (v := vr (o + 183)) X f_Machine_19 h.2.2.1.1 rfl d_Machine_workOnText_50 (s_vref (show M (o + 225) 2 = o + 183 from h.2.2.1.2.2.1.2.2.1) (by omega)) ?_
        have hr43 := qn_rng h.2.1
        refine go_cV (st2 := []) (r := []) X k_Machine_124 (x_takeNumber l D h ) h.2.1.1 rfl rfl (by omega) (Nat.le_of_ble_eq_true rfl) d_Machine_workOnText_53 (by omega) (by omega) (fun v' sh' M44 sz' hpp => ?_)
        obtain ⟨e1, e2, e3, rd45, fr46⟩ := hpp
        subst e1
        rw [e2, e3]
        clear e2 e3
        show Go g 0 0 sh M44 sz 56 [(5, vi 1), (4, vi 0), (0, vr (o + 225)), (1, vi op), (2, vl x)] [vi (qn (s.1.2.1) (s.1.2.2))]
        refine go_goto (tgt := 60) X d_Machine_workOnText_56 rfl ?_
        refine go_istore (lv' := [(6, vi (qn (s.1.2.1) (s.1.2.2))), (5, vi 1), (4, vi 0), (0, vr (o + 225)), (1, vi op), (2, vl x)]) X d_Machine_workOnText_60 (by decide) rfl ?_
        refine go_aload_n X d_Machine_workOnText_62 rfl rfl ?_
        refine go_get (v := vr (o + 183)) X f_Machine_19 rd45.2.2.1.1 rfl d_Machine_workOnText_63 (s_vref (show M44 (o + 225) 2 = o + 183 from rd45.2.2.1.2.2.1.2.2.1) (by omega)) ?_
        refine go_aload_n X d_Machine_workOnText_66 rfl rfl ?_
        refine go_get (v := vr (o + 235)) X f_Machine_56 rd45.2.2.1.1 rfl d_Machine_workOnText_67 (s_vref (show M44 (o + 225) 10 = o + 235 from rd45.2.2.1.2.2.2.1.2.2.2.2.2.1.trans (by omega)) (by omega)) ?_
        refine go_cV (st2 := []) (r := []) X k_Machine_160 (x_takeText1 l D rd45 ) rd45.2.1.1 rfl rfl (by omega) (Nat.le_of_ble_eq_true rfl) d_Machine_workOnText_70 (by omega) (by omega) (fun v' sh' M48 sz' hpp => ?_)
        obtain ⟨e1, e2, e3, rd49, fr50⟩ := hpp
        subst e1
        rw [e2, e3]
        clear e2 e3
        show Go g 0 0 sh M48 sz 73 [(6, vi (qn (s.1.2.1) (s.1.2.2))), (5, vi 1), (4, vi 0), (0, vr (o + 225)), (1, vi op), (2, vl x)] []
        have fr51 : fr (fun z => z = o + 1 ∨ (o + 2 ≤ z ∧ z < o + 157) ∨ (o + 183 ≤ z ∧ z ≤ o + 246)) M M48 := fun z hz => (fr50 z hz).trans (fr46 z hz)
        refine go_iload_n X d_Machine_workOnText_73 rfl rfl ?_
        rcases (show (op < 23 ∨ 28 < op) ∨ op = 23 ∨ op = 24 ∨ op = 25 ∨ op = 26 ∨ op = 27 ∨ op = 28 by omega) with ht52 | ht52 | ht52 | ht52 | ht52 | ht52 | ht52
        · skip
          refine go_tabOut (tgt := 264) X d_Machine_workOnText_74 (by omega) ht52 rfl ?_
          exfalso
          omega
        · skip
          refine go_tabIn (off := 38) (tgt := 112) X d_Machine_workOnText_74 (by omega) (by omega) (by omega) (by rw [ht52]; rfl) rfl ?_
          exfalso
          omega
        · skip
          refine go_tabIn (off := 68) (tgt := 142) X d_Machine_workOnText_74 (by omega) (by omega) (by omega) (by rw [ht52]; rfl) rfl ?_
          exfalso
          omega
        · skip
          refine go_tabIn (off := 140) (tgt := 214) X d_Machine_workOnText_74 (by omega) (by omega) (by omega) (by rw [ht52]; rfl) rfl ?_
          exfalso
          omega
        · skip
          refine go_tabIn (off := 160) (tgt := 234) X d_Machine_workOnText_74 (by omega) (by omega) (by omega) (by rw [ht52]; rfl) rfl ?_
          exfalso
          omega
        · skip
          refine go_tabIn (off := 53) (tgt := 127) X d_Machine_workOnText_74 (by omega) (by omega) (by omega) (by rw [ht52]; rfl) rfl ?_
          exfalso
          omega
        · skip
          refine go_tabIn (off := 174) (tgt := 248) X d_Machine_workOnText_74 (by omega) (by omega) (by omega) (by rw [ht52]; rfl) rfl ?_
          refine go_aload_n X d_Machine_workOnText_248 rfl rfl ?_
          refine go_get (v := vr (o + 235)) X f_Machine_56 rd49.2.2.1.1 rfl d_Machine_workOnText_249 (s_vref (show M48 (o + 225) 10 = o + 235 from rd49.2.2.1.2.2.2.1.2.2.2.2.2.1.trans (by omega)) (by omega)) ?_
          refine go_iload X d_Machine_workOnText_252 rfl ?_
          refine go_aload_n X d_Machine_workOnText_254 rfl rfl ?_
          refine go_get (v := vr (o + 239)) X f_Machine_63 rd49.2.2.1.1 rfl d_Machine_workOnText_255 (s_vref (show M48 (o + 225) 12 = o + 239 from rd49.2.2.1.2.2.2.1.2.2.2.2.2.2.2.1.trans (by omega)) (by omega)) ?_
          refine go_cS (st2 := []) (r := []) X k_Machine_248 (x_cutBehind l D rd49 (b := qn (s.1.2.1) (s.1.2.2)) (by omega)) rfl rfl (by omega) (Nat.le_of_ble_eq_true rfl) d_Machine_workOnText_258 (by omega) (by omega) (fun v' sh' M53 sz' hpp => ?_)
          obtain ⟨e1, e2, e3, rd54, fr55⟩ := hpp
          subst e1
          rw [e2, e3]
          clear e2 e3
          show Go g 0 0 sh M53 sz 261 [(6, vi (qn (s.1.2.1) (s.1.2.2))), (5, vi 1), (4, vi 0), (0, vr (o + 225)), (1, vi op), (2, vl x)] []
          have fr56 : fr (fun z => z = o + 1 ∨ (o + 2 ≤ z ∧ z < o + 157) ∨ (o + 183 ≤ z ∧ z ≤ o + 246)) M M53 := fun z hz => (fr55 z hz).trans (fr51 z hz)
          refine go_goto (tgt := 279) X d_Machine_workOnText_261 rfl ?_
          refine go_aload_n X d_Machine_workOnText_279 rfl rfl ?_
          refine go_get (v := vr (o + 183)) X f_Machine_19 rd54.2.2.1.1 rfl d_Machine_workOnText_280 (s_vref (show M53 (o + 225) 2 = o + 183 from rd54.2.2.1.2.2.1.2.2.1) (by omega)) ?_
          refine go_aload_n X d_Machine_workOnText_283 rfl rfl ?_
          refine go_get (v := vr (o + 239)) X f_Machine_63 rd54.2.2.1.1 rfl d_Machine_workOnText_284 (s_vref (show M53 (o + 225) 12 = o + 239 from rd54.2.2.1.2.2.2.1.2.2.2.2.2.2.2.1.trans (by omega)) (by omega)) ?_
          refine go_cV (st2 := []) (r := []) X k_Machine_137 (x_giveText3 l D rd54 ) rd54.2.1.1 rfl rfl (by omega) (Nat.le_of_ble_eq_true rfl) d_Machine_workOnText_287 (by omega) (by omega) (fun v' sh' M57 sz' hpp => ?_)
          obtain ⟨e1, e2, e3, rd58, fr59⟩ := hpp
          subst e1
          rw [e2, e3]
          clear e2 e3
          show Go g 0 0 sh M57 sz 290 [(6, vi (qn (s.1.2.1) (s.1.2.2))), (5, vi 1), (4, vi 0), (0, vr (o + 225)), (1, vi op), (2, vl x)] []
          have fr60 : fr (fun z => z = o + 1 ∨ (o + 2 ≤ z ∧ z < o + 157) ∨ (o + 183 ≤ z ∧ z ≤ o + 246)) M M57 := fun z hz => (fr59 z hz).trans (fr56 z hz)
          refine go_vret X d_Machine_workOnText_290 rfl (by omega) (by omega) ?_
          have hT : wkT op x s = (sG (1, 0, cof (vT (sTN s.1)) (vN s.1)) (sTT (sTN s.1)), s.2) := (if_neg (by omega)).trans ((if_neg (by omega)).trans ((if_neg (by omega)).trans ((if_neg (by omega)).trans ((if_neg (by omega)).trans ((if_pos (by omega)))))))
          rw [hT]
          exact ⟨rfl, rfl, rfl, ⟨qt (pn (s.1.2.1)) (s.1.2.2), T2, cof (qt (pn (s.1.2.1)) (s.1.2.2)) (qn (s.1.2.1) (s.1.2.2)), U1, U2, rd58⟩, fr60⟩
      · skip
        refine go_iload_n X d_Machine_workOnText_31 rfl rfl ?_
        refine go_bipush (v := 29) X d_Machine_workOnText_32 (by decide) ?_
        refine go_icmp_ne (tgt := 41) X d_Machine_workOnText_34 rfl (by omega) (by omega) (fun hq61 => ?_) (fun hq61 => ?_)
        · skip
          refine go_iconst (v := 0) X d_Machine_workOnText_41 ?_
          refine go_istore (lv' := [(5, vi 0), (4, vi 0), (0, vr (o + 225)), (1, vi op), (2, vl x)]) X d_Machine_workOnText_42 (by decide) rfl ?_
          refine go_iload X d_Machine_workOnText_44 rfl ?_
          refine go_if_eq (tgt := 59) X d_Machine_workOnText_46 rfl (by omega) (fun _ => ?_) (fun h9 => absurd h9 (by decide))
          refine go_iconst (v := 0) X d_Machine_workOnText_59 ?_
          refine go_istore (lv' := [(6, vi 0), (5, vi 0), (4, vi 0), (0, vr (o + 225)), (1, vi op), (2, vl x)]) X d_Machine_workOnText_60 (by decide) rfl ?_
          refine go_aload_n X d_Machine_workOnText_62 rfl rfl ?_
          refine go_get (v := vr (o + 183)) X f_Machine_19 h.2.2.1.1 rfl d_Machine_workOnText_63 (s_vref (show M (o + 225) 2 = o + 183 from h.2.2.1.2.2.1.2.2.1) (by omega)) ?_
          refine go_aload_n X d_Machine_workOnText_66 rfl rfl ?_
          refine go_get (v := vr (o + 235)) X f_Machine_56 h.2.2.1.1 rfl d_Machine_workOnText_67 (s_vref (show M (o + 225) 10 = o + 235 from h.2.2.1.2.2.2.1.2.2.2.2.2.1.trans (by omega)) (by omega)) ?_
          refine go_cV (st2 := []) (r := []) X k_Machine_160 (x_takeText1 l D h ) h.2.1.1 rfl rfl (by omega) (Nat.le_of_ble_eq_true rfl) d_Machine_workOnText_70 (by omega) (by omega) (fun v' sh' M62 sz' hpp => ?_)
          obtain ⟨e1, e2, e3, rd63, fr64⟩ := hpp
          subst e1
          rw [e2, e3]
          clear e2 e3
          show Go g 0 0 sh M62 sz 73 [(6, vi 0), (5, vi 0), (4, vi 0), (0, vr (o + 225)), (1, vi op), (2, vl x)] []
          refine go_iload_n X d_Machine_workOnText_73 rfl rfl ?_
          rcases (show (op < 23 ∨ 28 < op) ∨ op = 23 ∨ op = 24 ∨ op = 25 ∨ op = 26 ∨ op = 27 ∨ op = 28 by omega) with ht66 | ht66 | ht66 | ht66 | ht66 | ht66 | ht66
          · skip
            refine go_tabOut (tgt := 264) X d_Machine_workOnText_74 (by omega) ht66 rfl ?_
            exfalso
            omega
          · skip
            refine go_tabIn (off := 38) (tgt := 112) X d_Machine_workOnText_74 (by omega) (by omega) (by omega) (by rw [ht66]; rfl) rfl ?_
            refine go_aload_n X d_Machine_workOnText_112 rfl rfl ?_
            refine go_get (v := vr (o + 183)) X f_Machine_19 rd63.2.2.1.1 rfl d_Machine_workOnText_113 (s_vref (show M62 (o + 225) 2 = o + 183 from rd63.2.2.1.2.2.1.2.2.1) (by omega)) ?_
            refine go_aload_n X d_Machine_workOnText_116 rfl rfl ?_
            refine go_get (v := vr (o + 235)) X f_Machine_56 rd63.2.2.1.1 rfl d_Machine_workOnText_117 (s_vref (show M62 (o + 225) 10 = o + 235 from rd63.2.2.1.2.2.2.1.2.2.2.2.2.1.trans (by omega)) (by omega)) ?_
            refine go_cSf (st2 := [vi (cnn (qt (s.1.2.1) (s.1.2.2))), vr (o + 183)]) (r := [vr (o + 183)]) X k_Machine_216 (c_People_countNames l D rd63.2.2.2.1) rfl rfl (by omega) (Nat.le_of_ble_eq_true rfl) d_Machine_workOnText_120 (by omega) (by omega) rfl ?_
            refine go_top (v' := vi (wi32 (cnn (qt (s.1.2.1) (s.1.2.2))))) X (wi32_vi _) ?_
            refine go_cV (st2 := []) (r := []) X k_Machine_130 (x_giveNumber l D rd63 (q := wi32 (cnn (qt (s.1.2.1) (s.1.2.2)))) (wi32_rng _)) rd63.2.1.1 rfl rfl (by omega) (Nat.le_of_ble_eq_true rfl) d_Machine_workOnText_123 (by omega) (by omega) (fun v' sh' M67 sz' hpp => ?_)
            obtain ⟨e1, e2, e3, rd68, fr69⟩ := hpp
            subst e1
            rw [e2, e3]
            clear e2 e3
            show Go g 0 0 sh M67 sz 126 [(6, vi 0), (5, vi 0), (4, vi 0), (0, vr (o + 225)), (1, vi op), (2, vl x)] []
            have fr70 : fr (fun z => z = o + 1 ∨ (o + 2 ≤ z ∧ z < o + 157) ∨ (o + 183 ≤ z ∧ z ≤ o + 246)) M M67 := fun z hz => (fr69 z hz).trans (fr64 z hz)
            refine go_vret X d_Machine_workOnText_126 rfl (by omega) (by omega) ?_
            have hT : wkT op x s = (sG (0, wi32 (cnn (vT s.1)), []) (sTT s.1), s.2) := (if_pos (by omega))
            rw [hT]
            exact ⟨rfl, rfl, rfl, ⟨qt (s.1.2.1) (s.1.2.2), T2, T3, U1, U2, rd68⟩, fr70⟩
          · skip
            refine go_tabIn (off := 68) (tgt := 142) X d_Machine_workOnText_74 (by omega) (by omega) (by omega) (by rw [ht66]; rfl) rfl ?_
            exfalso
            omega
          · skip
            refine go_tabIn (off := 140) (tgt := 214) X d_Machine_workOnText_74 (by omega) (by omega) (by omega) (by rw [ht66]; rfl) rfl ?_
            refine go_aload_n X d_Machine_workOnText_214 rfl rfl ?_
            refine go_get (v := vr (o + 235)) X f_Machine_56 rd63.2.2.1.1 rfl d_Machine_workOnText_215 (s_vref (show M62 (o + 225) 10 = o + 235 from rd63.2.2.1.2.2.2.1.2.2.2.2.2.1.trans (by omega)) (by omega)) ?_
            refine go_lload_n X d_Machine_workOnText_218 rfl rfl ?_
            refine go_ldc2 (x := 3) X w_kl_Machine_239 (by decide) d_Machine_workOnText_219 ?_
            refine go_lrem (z := x % 3) X d_Machine_workOnText_222 (by decide) (l_remc (by omega) (by decide)) ?_
            refine go_l2i X d_Machine_workOnText_223 ?_
            refine go_aload_n X d_Machine_workOnText_224 rfl rfl ?_
            refine go_get (v := vr (o + 239)) X f_Machine_63 rd63.2.2.1.1 rfl d_Machine_workOnText_225 (s_vref (show M62 (o + 225) 12 = o + 239 from rd63.2.2.1.2.2.2.1.2.2.2.2.2.2.2.1.trans (by omega)) (by omega)) ?_
            refine go_cS (st2 := []) (r := []) X k_Machine_241 (x_changeCapitals l D rd63 (m := x % 3) (by omega)) rfl rfl (by omega) (Nat.le_of_ble_eq_true rfl) d_Machine_workOnText_228 (by omega) (by omega) (fun v' sh' M71 sz' hpp => ?_)
            obtain ⟨e1, e2, e3, rd72, fr73⟩ := hpp
            subst e1
            rw [e2, e3]
            clear e2 e3
            show Go g 0 0 sh M71 sz 231 [(6, vi 0), (5, vi 0), (4, vi 0), (0, vr (o + 225)), (1, vi op), (2, vl x)] []
            have fr74 : fr (fun z => z = o + 1 ∨ (o + 2 ≤ z ∧ z < o + 157) ∨ (o + 183 ≤ z ∧ z ≤ o + 246)) M M71 := fun z hz => (fr73 z hz).trans (fr64 z hz)
            refine go_goto (tgt := 279) X d_Machine_workOnText_231 rfl ?_
            refine go_aload_n X d_Machine_workOnText_279 rfl rfl ?_
            refine go_get (v := vr (o + 183)) X f_Machine_19 rd72.2.2.1.1 rfl d_Machine_workOnText_280 (s_vref (show M71 (o + 225) 2 = o + 183 from rd72.2.2.1.2.2.1.2.2.1) (by omega)) ?_
            refine go_aload_n X d_Machine_workOnText_283 rfl rfl ?_
            refine go_get (v := vr (o + 239)) X f_Machine_63 rd72.2.2.1.1 rfl d_Machine_workOnText_284 (s_vref (show M71 (o + 225) 12 = o + 239 from rd72.2.2.1.2.2.2.1.2.2.2.2.2.2.2.1.trans (by omega)) (by omega)) ?_
            refine go_cV (st2 := []) (r := []) X k_Machine_137 (x_giveText3 l D rd72 ) rd72.2.1.1 rfl rfl (by omega) (Nat.le_of_ble_eq_true rfl) d_Machine_workOnText_287 (by omega) (by omega) (fun v' sh' M75 sz' hpp => ?_)
            obtain ⟨e1, e2, e3, rd76, fr77⟩ := hpp
            subst e1
            rw [e2, e3]
            clear e2 e3
            show Go g 0 0 sh M75 sz 290 [(6, vi 0), (5, vi 0), (4, vi 0), (0, vr (o + 225)), (1, vi op), (2, vl x)] []
            have fr78 : fr (fun z => z = o + 1 ∨ (o + 2 ≤ z ∧ z < o + 157) ∨ (o + 183 ≤ z ∧ z ≤ o + 246)) M M75 := fun z hz => (fr77 z hz).trans (fr74 z hz)
            refine go_vret X d_Machine_workOnText_290 rfl (by omega) (by omega) ?_
            have hT : wkT op x s = (sG (1, 0, kof (vT s.1) (x % 3)) (sTT s.1), s.2) := (if_neg (by omega)).trans ((if_neg (by omega)).trans ((if_pos (by omega))))
            rw [hT]
            exact ⟨rfl, rfl, rfl, ⟨qt (s.1.2.1) (s.1.2.2), T2, kof (qt (s.1.2.1) (s.1.2.2)) (x % 3), U1, U2, rd76⟩, fr78⟩
          · skip
            refine go_tabIn (off := 160) (tgt := 234) X d_Machine_workOnText_74 (by omega) (by omega) (by omega) (by rw [ht66]; rfl) rfl ?_
            refine go_aload_n X d_Machine_workOnText_234 rfl rfl ?_
            refine go_get (v := vr (o + 235)) X f_Machine_56 rd63.2.2.1.1 rfl d_Machine_workOnText_235 (s_vref (show M62 (o + 225) 10 = o + 235 from rd63.2.2.1.2.2.2.1.2.2.2.2.2.1.trans (by omega)) (by omega)) ?_
            refine go_aload_n X d_Machine_workOnText_238 rfl rfl ?_
            refine go_get (v := vr (o + 239)) X f_Machine_63 rd63.2.2.1.1 rfl d_Machine_workOnText_239 (s_vref (show M62 (o + 225) 12 = o + 239 from rd63.2.2.1.2.2.2.1.2.2.2.2.2.2.2.1.trans (by omega)) (by omega)) ?_
            refine go_cS (st2 := []) (r := []) X k_Machine_244 (x_purify l D rd63 ) rfl rfl (by omega) (Nat.le_of_ble_eq_true rfl) d_Machine_workOnText_242 (by omega) (by omega) (fun v' sh' M79 sz' hpp => ?_)
            obtain ⟨e1, e2, e3, rd80, fr81⟩ := hpp
            subst e1
            rw [e2, e3]
            clear e2 e3
            show Go g 0 0 sh M79 sz 245 [(6, vi 0), (5, vi 0), (4, vi 0), (0, vr (o + 225)), (1, vi op), (2, vl x)] []
            have fr82 : fr (fun z => z = o + 1 ∨ (o + 2 ≤ z ∧ z < o + 157) ∨ (o + 183 ≤ z ∧ z ≤ o + 246)) M M79 := fun z hz => (fr81 z hz).trans (fr64 z hz)
            refine go_goto (tgt := 279) X d_Machine_workOnText_245 rfl ?_
            refine go_aload_n X d_Machine_workOnText_279 rfl rfl ?_
            refine go_get (v := vr (o + 183)) X f_Machine_19 rd80.2.2.1.1 rfl d_Machine_workOnText_280 (s_vref (show M79 (o + 225) 2 = o + 183 from rd80.2.2.1.2.2.1.2.2.1) (by omega)) ?_
            refine go_aload_n X d_Machine_workOnText_283 rfl rfl ?_
            refine go_get (v := vr (o + 239)) X f_Machine_63 rd80.2.2.1.1 rfl d_Machine_workOnText_284 (s_vref (show M79 (o + 225) 12 = o + 239 from rd80.2.2.1.2.2.2.1.2.2.2.2.2.2.2.1.trans (by omega)) (by omega)) ?_
            refine go_cV (st2 := []) (r := []) X k_Machine_137 (x_giveText3 l D rd80 ) rd80.2.1.1 rfl rfl (by omega) (Nat.le_of_ble_eq_true rfl) d_Machine_workOnText_287 (by omega) (by omega) (fun v' sh' M83 sz' hpp => ?_)
            obtain ⟨e1, e2, e3, rd84, fr85⟩ := hpp
            subst e1
            rw [e2, e3]
            clear e2 e3
            show Go g 0 0 sh M83 sz 290 [(6, vi 0), (5, vi 0), (4, vi 0), (0, vr (o + 225)), (1, vi op), (2, vl x)] []
            have fr86 : fr (fun z => z = o + 1 ∨ (o + 2 ≤ z ∧ z < o + 157) ∨ (o + 183 ≤ z ∧ z ≤ o + 246)) M M83 := fun z hz => (fr85 z hz).trans (fr82 z hz)
            refine go_vret X d_Machine_workOnText_290 rfl (by omega) (by omega) ?_
            have hT : wkT op x s = (sG (1, 0, pof (vT s.1)) (sTT s.1), s.2) := (if_neg (by omega)).trans ((if_neg (by omega)).trans ((if_neg (by omega)).trans ((if_pos (by omega)))))
            rw [hT]
            exact ⟨rfl, rfl, rfl, ⟨qt (s.1.2.1) (s.1.2.2), T2, pof (qt (s.1.2.1) (s.1.2.2)), U1, U2, rd84⟩, fr86⟩
          · skip
            refine go_tabIn (off := 53) (tgt := 127) X d_Machine_workOnText_74 (by omega) (by omega) (by omega) (by rw [ht66]; rfl) rfl ?_
            refine go_aload_n X d_Machine_workOnText_127 rfl rfl ?_
            refine go_get (v := vr (o + 183)) X f_Machine_19 rd63.2.2.1.1 rfl d_Machine_workOnText_128 (s_vref (show M62 (o + 225) 2 = o + 183 from rd63.2.2.1.2.2.1.2.2.1) (by omega)) ?_
            refine go_aload_n X d_Machine_workOnText_131 rfl rfl ?_
            refine go_get (v := vr (o + 235)) X f_Machine_56 rd63.2.2.1.1 rfl d_Machine_workOnText_132 (s_vref (show M62 (o + 225) 10 = o + 235 from rd63.2.2.1.2.2.2.1.2.2.2.2.2.1.trans (by omega)) (by omega)) ?_
            refine go_cSf (st2 := [vi (nof (qt (s.1.2.1) (s.1.2.2))), vr (o + 183)]) (r := [vr (o + 183)]) X k_Machine_220 (c_sizeWithoutBraces l D rd63.2.2.2.1) rfl rfl (by omega) (Nat.le_of_ble_eq_true rfl) d_Machine_workOnText_135 (by omega) (by omega) rfl ?_
            refine go_top (v' := vi (wi32 (nof (qt (s.1.2.1) (s.1.2.2))))) X (wi32_vi _) ?_
            refine go_cV (st2 := []) (r := []) X k_Machine_130 (x_giveNumber l D rd63 (q := wi32 (nof (qt (s.1.2.1) (s.1.2.2)))) (wi32_rng _)) rd63.2.1.1 rfl rfl (by omega) (Nat.le_of_ble_eq_true rfl) d_Machine_workOnText_138 (by omega) (by omega) (fun v' sh' M87 sz' hpp => ?_)
            obtain ⟨e1, e2, e3, rd88, fr89⟩ := hpp
            subst e1
            rw [e2, e3]
            clear e2 e3
            show Go g 0 0 sh M87 sz 141 [(6, vi 0), (5, vi 0), (4, vi 0), (0, vr (o + 225)), (1, vi op), (2, vl x)] []
            have fr90 : fr (fun z => z = o + 1 ∨ (o + 2 ≤ z ∧ z < o + 157) ∨ (o + 183 ≤ z ∧ z ≤ o + 246)) M M87 := fun z hz => (fr89 z hz).trans (fr64 z hz)
            refine go_vret X d_Machine_workOnText_141 rfl (by omega) (by omega) ?_
            have hT : wkT op x s = (sG (0, wi32 (nof (vT s.1)), []) (sTT s.1), s.2) := (if_neg (by omega)).trans ((if_neg (by omega)).trans ((if_neg (by omega)).trans ((if_neg (by omega)).trans ((if_pos (by omega))))))
            rw [hT]
            exact ⟨rfl, rfl, rfl, ⟨qt (s.1.2.1) (s.1.2.2), T2, T3, U1, U2, rd88⟩, fr90⟩
          · skip
            refine go_tabIn (off := 174) (tgt := 248) X d_Machine_workOnText_74 (by omega) (by omega) (by omega) (by rw [ht66]; rfl) rfl ?_
            exfalso
            omega
        · skip
          exfalso
          omega
  · skip
    refine go_aload_n X d_Machine_workOnText_6 rfl rfl ?_
    refine go_get (v := vr (o + 183)) X f_Machine_19 h.2.2.1.1 rfl d_Machine_workOnText_7 (s_vref (show M (o + 225) 2 = o + 183 from h.2.2.1.2.2.1.2.2.1) (by omega)) ?_
    have hr91 := qn_rng h.2.1
    refine go_cV (st2 := []) (r := []) X k_Machine_124 (x_takeNumber l D h ) h.2.1.1 rfl rfl (by omega) (Nat.le_of_ble_eq_true rfl) d_Machine_workOnText_10 (by omega) (by omega) (fun v' sh' M92 sz' hpp => ?_)
    obtain ⟨e1, e2, e3, rd93, fr94⟩ := hpp
    subst e1
    rw [e2, e3]
    clear e2 e3
    show Go g 0 0 sh M92 sz 13 [(0, vr (o + 225)), (1, vi op), (2, vl x)] [vi (qn (s.1.2.1) (s.1.2.2))]
    refine go_goto (tgt := 17) X d_Machine_workOnText_13 rfl ?_
    refine go_istore (lv' := [(4, vi (qn (s.1.2.1) (s.1.2.2))), (0, vr (o + 225)), (1, vi op), (2, vl x)]) X d_Machine_workOnText_17 (by decide) rfl ?_
    refine go_iload_n X d_Machine_workOnText_19 rfl rfl ?_
    refine go_bipush (v := 24) X d_Machine_workOnText_20 (by decide) ?_
    refine go_icmp_eq (tgt := 37) X d_Machine_workOnText_22 rfl (by omega) (by omega) (fun hq96 => ?_) (fun hq96 => ?_)
    · skip
      exfalso
      omega
    · skip
      refine go_iload_n X d_Machine_workOnText_25 rfl rfl ?_
      refine go_bipush (v := 28) X d_Machine_workOnText_26 (by decide) ?_
      refine go_icmp_eq (tgt := 37) X d_Machine_workOnText_28 rfl (by omega) (by omega) (fun hq97 => ?_) (fun hq97 => ?_)
      · skip
        exfalso
        omega
      · skip
        refine go_iload_n X d_Machine_workOnText_31 rfl rfl ?_
        refine go_bipush (v := 29) X d_Machine_workOnText_32 (by decide) ?_
        refine go_icmp_ne (tgt := 41) X d_Machine_workOnText_34 rfl (by omega) (by omega) (fun hq98 => ?_) (fun hq98 => ?_)
        · skip
          exfalso
          omega
        · skip
          refine go_iconst (v := 1) X d_Machine_workOnText_37 ?_
          refine go_goto (tgt := 42) X d_Machine_workOnText_38 rfl ?_
          refine go_istore (lv' := [(5, vi 1), (4, vi (qn (s.1.2.1) (s.1.2.2))), (0, vr (o + 225)), (1, vi op), (2, vl x)]) X d_Machine_workOnText_42 (by decide) rfl ?_
          refine go_iload X d_Machine_workOnText_44 rfl ?_
          refine go_if_eq (tgt := 59) X d_Machine_workOnText_46 rfl (by omega) (fun h9 => absurd h9 (by decide)) (fun _ => ?_)
          refine go_aload_n X d_Machine_workOnText_49 rfl rfl ?_
          refine go_get (v := vr (o + 183)) X f_Machine_19 rd93.2.2.1.1 rfl d_Machine_workOnText_50 (s_vref (show M92 (o + 225) 2 = o + 183 from rd93.2.2.1.2.2.1.2.2.1) (by omega)) ?_
          have hr99 := qn_rng rd93.2.1
          refine go_cV (st2 := []) (r := []) X k_Machine_124 (x_takeNumber l D rd93 ) rd93.2.1.1 rfl rfl (by omega) (Nat.le_of_ble_eq_true rfl) d_Machine_workOnText_53 (by omega) (by omega) (fun v' sh' M100 sz' hpp => ?_)
          obtain ⟨e1, e2, e3, rd101, fr102⟩ := hpp
          subst e1
          rw [e2, e3]
          clear e2 e3
          show Go g 0 0 sh M100 sz 56 [(5, vi 1), (4, vi (qn (s.1.2.1) (s.1.2.2))), (0, vr (o + 225)), (1, vi op), (2, vl x)] [vi (qn (pn (s.1.2.1)) (s.1.2.2))]
          have fr103 : fr (fun z => z = o + 1 ∨ (o + 2 ≤ z ∧ z < o + 157) ∨ (o + 183 ≤ z ∧ z ≤ o + 246)) M M100 := fun z hz => (fr102 z hz).trans (fr94 z hz)
          refine go_goto (tgt := 60) X d_Machine_workOnText_56 rfl ?_
          refine go_istore (lv' := [(6, vi (qn (pn (s.1.2.1)) (s.1.2.2))), (5, vi 1), (4, vi (qn (s.1.2.1) (s.1.2.2))), (0, vr (o + 225)), (1, vi op), (2, vl x)]) X d_Machine_workOnText_60 (by decide) rfl ?_
          refine go_aload_n X d_Machine_workOnText_62 rfl rfl ?_
          refine go_get (v := vr (o + 183)) X f_Machine_19 rd101.2.2.1.1 rfl d_Machine_workOnText_63 (s_vref (show M100 (o + 225) 2 = o + 183 from rd101.2.2.1.2.2.1.2.2.1) (by omega)) ?_
          refine go_aload_n X d_Machine_workOnText_66 rfl rfl ?_
          refine go_get (v := vr (o + 235)) X f_Machine_56 rd101.2.2.1.1 rfl d_Machine_workOnText_67 (s_vref (show M100 (o + 225) 10 = o + 235 from rd101.2.2.1.2.2.2.1.2.2.2.2.2.1.trans (by omega)) (by omega)) ?_
          refine go_cV (st2 := []) (r := []) X k_Machine_160 (x_takeText1 l D rd101 ) rd101.2.1.1 rfl rfl (by omega) (Nat.le_of_ble_eq_true rfl) d_Machine_workOnText_70 (by omega) (by omega) (fun v' sh' M104 sz' hpp => ?_)
          obtain ⟨e1, e2, e3, rd105, fr106⟩ := hpp
          subst e1
          rw [e2, e3]
          clear e2 e3
          show Go g 0 0 sh M104 sz 73 [(6, vi (qn (pn (s.1.2.1)) (s.1.2.2))), (5, vi 1), (4, vi (qn (s.1.2.1) (s.1.2.2))), (0, vr (o + 225)), (1, vi op), (2, vl x)] []
          have fr107 : fr (fun z => z = o + 1 ∨ (o + 2 ≤ z ∧ z < o + 157) ∨ (o + 183 ≤ z ∧ z ≤ o + 246)) M M104 := fun z hz => (fr106 z hz).trans (fr103 z hz)
          refine go_iload_n X d_Machine_workOnText_73 rfl rfl ?_
          rcases (show (op < 23 ∨ 28 < op) ∨ op = 23 ∨ op = 24 ∨ op = 25 ∨ op = 26 ∨ op = 27 ∨ op = 28 by omega) with ht108 | ht108 | ht108 | ht108 | ht108 | ht108 | ht108
          · skip
            refine go_tabOut (tgt := 264) X d_Machine_workOnText_74 (by omega) ht108 rfl ?_
            refine go_aload_n X d_Machine_workOnText_264 rfl rfl ?_
            refine go_get (v := vr (o + 235)) X f_Machine_56 rd105.2.2.1.1 rfl d_Machine_workOnText_265 (s_vref (show M104 (o + 225) 10 = o + 235 from rd105.2.2.1.2.2.2.1.2.2.2.2.2.1.trans (by omega)) (by omega)) ?_
            refine go_iload X d_Machine_workOnText_268 rfl ?_
            refine go_iload X d_Machine_workOnText_270 rfl ?_
            refine go_aload_n X d_Machine_workOnText_272 rfl rfl ?_
            refine go_get (v := vr (o + 239)) X f_Machine_63 rd105.2.2.1.1 rfl d_Machine_workOnText_273 (s_vref (show M104 (o + 225) 12 = o + 239 from rd105.2.2.1.2.2.2.1.2.2.2.2.2.2.2.1.trans (by omega)) (by omega)) ?_
            refine go_cS (st2 := []) (r := []) X k_Machine_251 (x_cutOut l D rd105 (b := qn (pn (s.1.2.1)) (s.1.2.2)) (c := qn (s.1.2.1) (s.1.2.2)) (by omega) (by omega)) rfl rfl (by omega) (Nat.le_of_ble_eq_true rfl) d_Machine_workOnText_276 (by omega) (by omega) (fun v' sh' M109 sz' hpp => ?_)
            obtain ⟨e1, e2, e3, rd110, fr111⟩ := hpp
            subst e1
            rw [e2, e3]
            clear e2 e3
            show Go g 0 0 sh M109 sz 279 [(6, vi (qn (pn (s.1.2.1)) (s.1.2.2))), (5, vi 1), (4, vi (qn (s.1.2.1) (s.1.2.2))), (0, vr (o + 225)), (1, vi op), (2, vl x)] []
            have fr112 : fr (fun z => z = o + 1 ∨ (o + 2 ≤ z ∧ z < o + 157) ∨ (o + 183 ≤ z ∧ z ≤ o + 246)) M M109 := fun z hz => (fr111 z hz).trans (fr107 z hz)
            refine go_aload_n X d_Machine_workOnText_279 rfl rfl ?_
            refine go_get (v := vr (o + 183)) X f_Machine_19 rd110.2.2.1.1 rfl d_Machine_workOnText_280 (s_vref (show M109 (o + 225) 2 = o + 183 from rd110.2.2.1.2.2.1.2.2.1) (by omega)) ?_
            refine go_aload_n X d_Machine_workOnText_283 rfl rfl ?_
            refine go_get (v := vr (o + 239)) X f_Machine_63 rd110.2.2.1.1 rfl d_Machine_workOnText_284 (s_vref (show M109 (o + 225) 12 = o + 239 from rd110.2.2.1.2.2.2.1.2.2.2.2.2.2.2.1.trans (by omega)) (by omega)) ?_
            refine go_cV (st2 := []) (r := []) X k_Machine_137 (x_giveText3 l D rd110 ) rd110.2.1.1 rfl rfl (by omega) (Nat.le_of_ble_eq_true rfl) d_Machine_workOnText_287 (by omega) (by omega) (fun v' sh' M113 sz' hpp => ?_)
            obtain ⟨e1, e2, e3, rd114, fr115⟩ := hpp
            subst e1
            rw [e2, e3]
            clear e2 e3
            show Go g 0 0 sh M113 sz 290 [(6, vi (qn (pn (s.1.2.1)) (s.1.2.2))), (5, vi 1), (4, vi (qn (s.1.2.1) (s.1.2.2))), (0, vr (o + 225)), (1, vi op), (2, vl x)] []
            have fr116 : fr (fun z => z = o + 1 ∨ (o + 2 ≤ z ∧ z < o + 157) ∨ (o + 183 ≤ z ∧ z ≤ o + 246)) M M113 := fun z hz => (fr115 z hz).trans (fr112 z hz)
            refine go_vret X d_Machine_workOnText_290 rfl (by omega) (by omega) ?_
            have hT : wkT op x s = (sG (1, 0, oof (vT (sTN (sTN s.1))) (vN (sTN s.1)) (vN s.1)) (sTT (sTN (sTN s.1))), s.2) := (if_neg (by omega)).trans ((if_neg (by omega)).trans ((if_neg (by omega)).trans ((if_neg (by omega)).trans ((if_neg (by omega)).trans ((if_neg (by omega)))))))
            rw [hT]
            exact ⟨rfl, rfl, rfl, ⟨qt (pn (pn (s.1.2.1))) (s.1.2.2), T2, oof (qt (pn (pn (s.1.2.1))) (s.1.2.2)) (qn (pn (s.1.2.1)) (s.1.2.2)) (qn (s.1.2.1) (s.1.2.2)), U1, U2, rd114⟩, fr116⟩
          · skip
            refine go_tabIn (off := 38) (tgt := 112) X d_Machine_workOnText_74 (by omega) (by omega) (by omega) (by rw [ht108]; rfl) rfl ?_
            exfalso
            omega
          · skip
            refine go_tabIn (off := 68) (tgt := 142) X d_Machine_workOnText_74 (by omega) (by omega) (by omega) (by rw [ht108]; rfl) rfl ?_
            exfalso
            omega
          · skip
            refine go_tabIn (off := 140) (tgt := 214) X d_Machine_workOnText_74 (by omega) (by omega) (by omega) (by rw [ht108]; rfl) rfl ?_
            exfalso
            omega
          · skip
            refine go_tabIn (off := 160) (tgt := 234) X d_Machine_workOnText_74 (by omega) (by omega) (by omega) (by rw [ht108]; rfl) rfl ?_
            exfalso
            omega
          · skip
            refine go_tabIn (off := 53) (tgt := 127) X d_Machine_workOnText_74 (by omega) (by omega) (by omega) (by rw [ht108]; rfl) rfl ?_
            exfalso
            omega
          · skip
            refine go_tabIn (off := 174) (tgt := 248) X d_Machine_workOnText_74 (by omega) (by omega) (by omega) (by rw [ht108]; rfl) rfl ?_
            exfalso
            omega
