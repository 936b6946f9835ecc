set_option maxHeartbeats 4000000 in
set_option maxRecDepth 100000 in
theorem c_Stack_giveTextB (l : Launch) (D : va_G) {sh : s_S} {M : s_M} {sz p w n : Int} {f : Int → sva} {W : Int → Int} (h : stv sh M p w n f) (hW : M w = W) {b : Int} {K : Nat} {u : List Int} (hb : tv sh M b K u) (hd1 : b + 1 < p) (hbw : b ≠ w ∧ b + 1 ≠ w) : Sp l D y_Stack_giveText prog_10_method_11_code 2 none 4 0 0 [vr p, vr b] sh M sz (fun v' sh' M' sz' => v' = none ∧ sh' = sh ∧ sz' = sz ∧ stv sh M' p w (gn n) (gf n f (1, 0, (u.take 60))) ∧ M' w = gW n W ∧ fr (fun z => (p ≤ z ∧ z ≤ p + 37) ∨ z = w) M M') := by
  obtain ⟨h1, h2, h3, h4, h5, h6, h7, h8, h9, h10, h11⟩ := h
  refine Sp.ofGo (own := "CiteForge$Stack") (nm := "giveText") (by decide) rfl rfl (Nat.le_of_ble_eq_true rfl) (lv := [(0, vr p), (1, vr b)]) rfl ?_
  intro g X
  refine go_aload_n X d_Stack_giveText_0 rfl rfl ?_
  have hs0 : stv sh M p w n f := ⟨h1, h2, h3, h4, h5, h6, h7, h8, h9, h10, h11⟩
  refine go_cV (st2 := []) (r := []) X k_Stack_53 (c_Stack_makeRoom l D hs0 hW) h1 rfl rfl (by omega) (Nat.le_of_ble_eq_true rfl) d_Stack_giveText_1 (by omega) (by omega) (fun v sh' M1 sz' hp2 => ?_)
  obtain ⟨e3, e4, e5, hs6, rw7, fr8⟩ := hp2
  subst e3
  rw [e4, e5]
  show Go g 0 0 sh M1 sz 4 [(0, vr p), (1, vr b)] [vi (s_b (decide (n < 12)))]
  obtain ⟨u9, u10, u11, u12, u13, u14, u15, u16, u17, u18, u19⟩ := hs6
  have tv20 := hb.kept (fr8 b (by omega)) (fr8 (b + 1) (by omega))
  refine go_ifb_ne (tgt := 8) X d_Stack_giveText_4 rfl (fun hq21 => ?_) (fun hq21 => ?_)
  · skip
    simp only [decide_eq_true_eq] at hq21
    have g1 : gn n = n + 1 := if_pos (by omega)
    have g2 : gW n W = W := if_pos (by omega)
    have e22 := u14.trans g1
    have rw23 := rw7.trans g2
    refine go_aload_n X d_Stack_giveText_8 rfl rfl ?_
    refine go_ifnonnull (tgt := 29) X d_Stack_giveText_9 rfl ?_
    refine go_aload_n X d_Stack_giveText_29 rfl rfl ?_
    refine go_get (v := vr (p + 1)) X f_Stack_17 h1 rfl d_Stack_giveText_30 (s_varr u12 (by omega)) ?_
    refine go_aload_n X d_Stack_giveText_33 rfl rfl ?_
    refine go_get (v := vi (n + 1)) X f_Stack_22 h1 rfl d_Stack_giveText_34 (congrArg (s_v .int) e22) ?_
    refine go_iconst (v := 1) X d_Stack_giveText_37 ?_
    refine go_isub X d_Stack_giveText_38 ?_
    obtain ⟨q24, hq25⟩ : ∃ q, q = p + 2 + 3 * ((n + 1) - 1) := ⟨_, rfl⟩
    have hv26 := u19 ((n + 1) - 1) (by omega) (by omega)
    rw [← hq25] at hv26
    obtain ⟨e27, hv28⟩ := hv26
    obtain ⟨u29, u30, u31, u32, u33, u34, u35, u36⟩ := id hv28
    refine go_aald X h2 (by omega) (by omega) d_Stack_giveText_39 ?_
    refine go_top (v' := vr q24) X (s_qref e27 (by omega)) ?_
    refine go_aload_n X d_Stack_giveText_40 rfl rfl ?_
    refine go_cV (st2 := []) (r := []) X k_Stack_62 (c_Value_setToText l D hv28 tv20 (by omega)) u29 rfl rfl (by omega) (Nat.le_of_ble_eq_true rfl) d_Stack_giveText_41 (by omega) (by omega) (fun v sh' M37 sz' hp38 => ?_)
    obtain ⟨e39, e40, e41, hv42, fr43⟩ := hp38
    subst e39
    rw [e40, e41]
    show Go g 0 0 sh M37 sz 44 [(0, vr p), (1, vr b)] []
    have e44 : M37 p 0 = p + 1 := (congrFun (fr43 p (by omega)) _).trans u12
    have e45 : M37 p 1 = w := (congrFun (fr43 p (by omega)) _).trans u13
    have e46 : M37 p 2 = n + 1 := (congrFun (fr43 p (by omega)) _).trans e22
    have e47 : M37 (p + 1) ((n + 1) - 1) = q24 := (congrFun (fr43 (p + 1) (by omega)) _).trans e27
    have tv48 := tv20.kept (fr43 b (by omega)) (fr43 (b + 1) (by omega))
    have fr49 : fr (fun z => (p ≤ z ∧ z ≤ p + 37) ∨ z = w) M M37 := fun z hz => by
      have hz1 : ¬ ((p ≤ z ∧ z ≤ p + 37) ∨ z = w) := hz
      exact (fr43 z (by omega)).trans (fr8 z hz)
    have rw50 : M37 w = W := (fr43 w (by omega)).trans rw23
    have sv51 : svs sh M37 p (fset f ((n + 1) - 1) (1, 0, (u.take 60))) := u19.set (by omega) (by rw [← hq25]; exact hv42) (fun z hz1 hz2 hz3 => fr43 z (by omega))
    clear e22 e27 fr43 fr8 rw23 tv20
    refine go_vret X d_Stack_giveText_44 rfl (by omega) (by omega) ?_
    have g3 : gf n f (1, 0, (u.take 60)) = fset f n (1, 0, (u.take 60)) := if_pos (by omega)
    rw [g1, g2, g3]
    have sv9 := sv51
    rw [show (n + 1) - 1 = n by omega] at sv9
    exact ⟨rfl, rfl, rfl, ⟨h1, h2, h3, e44, e45, e46, (by omega), h8, h9, h10, sv9⟩, rw50, fr49⟩
  · skip
    refine go_vret X d_Stack_giveText_7 rfl (by omega) (by omega) ?_
    simp only [decide_eq_false_iff_not] at hq21
    have g3 : gf n f (1, 0, (u.take 60)) = f := if_neg (by omega)
    rw [g3]
    exact ⟨rfl, rfl, rfl, ⟨h1, h2, h3, u12, u13, u14, (by have : gn n = n := if_neg (by omega); omega), h8, h9, h10, u19⟩, rw7, fr8⟩
theorem x_giveTextF (l : Launch) (D : va_G) {sh : s_S} {M : s_M} {sz o : Int} {hd : Int} {dn : Int} {O : Int → Int} {Q : Int → Int} {Z : Int → Int} {G : Int → Int} {WN : Int → Int} {n : Int} {f : Int → sva} {T1 : List Int} {T2 : List Int} {T3 : List Int} {U1 : sva} {U2 : sva} {PV : Int → Int} {PB : Int → Int} {PN : Int → Int} {PL : Int → Int} {PP : Int → Int} {ns : Int} {E : Int → sen} {np : Int} {tp : List Int} {K : Int → List Int} (h : mwd sh M sz o hd dn O Q Z G WN n f T1 T2 T3 U1 U2 PV PB PN PL PP ns E np tp K) {j i : Int} (hj : 0 ≤ j ∧ j < 9) (hi : 0 ≤ i ∧ i < 6) : Sp l D y_Stack_giveText prog_10_method_11_code 2 none 4 0 0 [vr (o + 183), vr (o + 2 + 2 + 17 * j + 2 + 1 + 2 * i)] sh M sz (fun v' sh' M' sz' => v' = none ∧ sh' = sh ∧ sz' = sz ∧ mwd sh M' sz o hd dn O Q Z G (gW n WN) (gn n) (gf n f (1, 0, (E j).2.2.1 i)) T1 T2 T3 U1 U2 PV PB PN PL PP ns E np tp K ∧ fr (fun z => z = o + 1 ∨ (o + 2 ≤ z ∧ z < o + 157) ∨ (o + 183 ≤ z ∧ z ≤ o + 246)) M M') := by
  obtain ⟨q1, q2, q3, q4, q5, q6, q7, q8, q9, q10, q11, ⟨A, q12⟩, q13, q14, q15⟩ := h
  obtain ⟨-, en⟩ := q10.ent hj.1 hj.2
  have et := (en.2.2.2.2.2.2.2.2.2.2.2.2.2.2.2.1 i hi.1 hi.2).2
  refine (c_Stack_giveTextB l D q2 q1.2 et (by omega) (by omega)).mono (fun v' sh' M' sz' hp => ?_)
  obtain ⟨e1, e2, e3, g1, g2, hf⟩ := hp
  rw [List.take_of_length_le et.len.1] at g1
  refine ⟨e1, e2, e3, ⟨⟨q1.1, g2⟩, g1, q3.mv (fun z a b => ⟨rfl, hf z (by show ¬ ((o + 183 ≤ z ∧ z ≤ o + 183 + 37) ∨ z = o + 1); omega)⟩), q4.mv (fun z a b => ⟨rfl, hf z (by show ¬ ((o + 183 ≤ z ∧ z ≤ o + 183 + 37) ∨ z = o + 1); omega)⟩), q5.mv (fun z a b => ⟨rfl, hf z (by show ¬ ((o + 183 ≤ z ∧ z ≤ o + 183 + 37) ∨ z = o + 1); omega)⟩), q6.mv (fun z a b => ⟨rfl, hf z (by show ¬ ((o + 183 ≤ z ∧ z ≤ o + 183 + 37) ∨ z = o + 1); omega)⟩), q7.mv (fun z a b => ⟨rfl, hf z (by show ¬ ((o + 183 ≤ z ∧ z ≤ o + 183 + 37) ∨ z = o + 1); omega)⟩), q8.mv (fun z a b => ⟨rfl, hf z (by show ¬ ((o + 183 ≤ z ∧ z ≤ o + 183 + 37) ∨ z = o + 1); omega)⟩), ⟨(congrFun (hf (o + 225) (by show ¬ ((o + 183 ≤ (o + 225) ∧ (o + 225) ≤ o + 183 + 37) ∨ (o + 225) = o + 1); omega)) _).trans q9.1, (congrFun (hf (o + 225) (by show ¬ ((o + 183 ≤ (o + 225) ∧ (o + 225) ≤ o + 183 + 37) ∨ (o + 225) = o + 1); omega)) _).trans q9.2⟩, q10.mv (fun z a b => ⟨rfl, hf z (by show ¬ ((o + 183 ≤ z ∧ z ≤ o + 183 + 37) ∨ z = o + 1); omega)⟩) rfl, q11.mv (fun z a b => ⟨rfl, hf z (by show ¬ ((o + 183 ≤ z ∧ z ≤ o + 183 + 37) ∨ z = o + 1); omega)⟩), ⟨A, q12.mv (hf (o + 224) (by show ¬ ((o + 183 ≤ (o + 224) ∧ (o + 224) ≤ o + 183 + 37) ∨ (o + 224) = o + 1); omega)) (fun z a b => ⟨rfl, hf z (by show ¬ ((o + 183 ≤ z ∧ z ≤ o + 183 + 37) ∨ z = o + 1); omega)⟩)⟩, q13.mv (fun z a b => ⟨rfl, hf z (by show ¬ ((o + 183 ≤ z ∧ z ≤ o + 183 + 37) ∨ z = o + 1); omega)⟩), q14, q15⟩, fun z hz => hf z ?_⟩
  have hz1 : ¬ (z = o + 1 ∨ (o + 2 ≤ z ∧ z < o + 157) ∨ (o + 183 ≤ z ∧ z ≤ o + 246)) := hz
  show ¬ ((o + 183 ≤ z ∧ z ≤ o + 183 + 37) ∨ z = o + 1)
  omega
/-! The run's state: warnings, stack; globals, entries; the page; operations done; people's rows. -/
abbrev skT : Type := (Int → Int) × Int × (Int → sva)
abbrev rnT : Type := skT × ((Int → Int) × (Int → sen)) × (Int × List Int × (Int → List Int)) × Int × ((Int → Int) × (Int → Int) × (Int → Int) × (Int → Int) × (Int → Int))
def sTN (k : skT) : skT := (qW k.2.1 k.2.2 k.1, pn k.2.1, k.2.2)
def sTT (k : skT) : skT := (tW k.2.1 k.2.2 k.1, pn k.2.1, k.2.2)
def sTA (k : skT) : skT := (pW k.2.1 k.1, pn k.2.1, k.2.2)
def sG (x : sva) (k : skT) : skT := (gW k.2.1 k.1, gn k.2.1, gf k.2.1 k.2.2 x)
def vN (k : skT) : Int := qn k.2.1 k.2.2
def vT (k : skT) : List Int := qt k.2.1 k.2.2
def vA (k : skT) : sva := pv k.2.1 k.2.2
def smA (x y : sva) : Bool := if x.1 = 0 ∨ y.1 = 0 then decide (x.1 = y.1 ∧ x.2.1 = y.2.1) else decide (gof x.2.2 y.2.2 = 0)
def nth_ (x : sva) : Bool := !decide (x.1 = 0) && allT p_bl x.2.2
def rck (op a b : Int) : Int := if op = 3 then wi32 (a + b) else if op = 4 then wi32 (a - b) else if op = 5 then (if a < b then 1 else 0) else (if b < a then 1 else 0)
def fdv (hd ns : Int) (E : Int → sen) (w : Int) : sva := if 0 ≤ hd ∧ 0 ≤ (fo E ns hd w).2 then (1, 0, (E (fo E ns hd w).1).2.2.1 (fo E ns hd w).2) else (2, 0, [])
def faq (o hd ns : Int) (E : Int → sen) (w : Int) : Value := if 0 ≤ hd ∧ 0 ≤ (fo E ns hd w).2 then vr (o + 2 + 2 + 17 * (fo E ns hd w).1 + 2 + 1 + 2 * (fo E ns hd w).2) else .null
def wsk (hd ns : Int) (E : Int → sen) (op x : Int) (k : skT) : skT :=
  if op = 0 then sG (0, wi32 x, []) k
  else if op = 1 then sG (1, 0, uof (u64 x)) k
  else if op = 2 then sG (fdv hd ns E (wof (u64 x))) k
  else if op = 7 then sG (0, s_b (smA (vA (sTA k)) (vA k)), []) (sTA (sTA k))
  else if op = 8 then sG (1, 0, jnt (vT (sTT k)) (vT k)) (sTT (sTT k))
  else if op = 9 then sTA k
  else if op = 10 then sG (vA k) (sG (vA k) (sTA k))
  else if op = 11 then sG (vA (sTA k)) (sG (vA k) (sTA (sTA k)))
  else if op = 12 then sG (0, s_b (nth_ (vA k)), []) (sTA k)
  else sG (0, rck op (vN (sTN k)) (vN k), []) (sTN (sTN k))
def wkS (hd ns op x : Int) (s : rnT) : rnT := (wsk hd ns s.2.1.2 op x s.1, s.2)
def mwx (sh : s_S) (M : s_M) (sz o hd : Int) (O Q Z : Int → Int) (ns : Int) (s : rnT) : Prop := ∃ (T1 T2 T3 : List Int) (U1 U2 : sva), mwd sh M sz o hd (s.2.2.2.1) O Q Z (s.2.1.1) (s.1.1) (s.1.2.1) (s.1.2.2) T1 T2 T3 U1 U2 (s.2.2.2.2.1) (s.2.2.2.2.2.1) (s.2.2.2.2.2.2.1) (s.2.2.2.2.2.2.2.1) (s.2.2.2.2.2.2.2.2) ns (s.2.1.2) (s.2.2.1.1) (s.2.2.1.2.1) (s.2.2.1.2.2)
theorem qn_rng {sh : s_S} {M : s_M} {p w n : Int} {f : Int → sva} (h : stv sh M p w n f) : -2147483648 ≤ qn n f ∧ qn n f < 2147483648 := by
  have hn := h.2.2.2.2.2.2.1
  unfold qn
  split
  · decide
  · have hv := (h.2.2.2.2.2.2.2.2.2.2 (n - 1) (by omega) (by omega)).2.2.2.2.2.2.2.1
    split
    · exact hv
    · decide
theorem fo_rng {sh : s_S} {M : s_M} {p w n : Int} {E : Int → sen} (h : shv sh M p w n E) {j v : Int} (hj : 0 ≤ j ∧ j < 9) : (0 ≤ (fo E n j v).1 ∧ (fo E n j v).1 < 9) ∧ (fo E n j v).2 < 6 := by
  have hn := h.2.2.2.2.2.2.1
  have hE : ∀ i, 0 ≤ i → i < 9 → fE E i v < 6 := fun i i0 i1 => by
    have e := (h.ent i0 i1).2.2.2.2.2.2.2.2.2.2.2.1
    have := fx_rng (W := (E i).2.1) (n := (E i).1.2.2.2) (w := v) e.1
    unfold fE
    omega
  have hc := fx_rng (W := kE E) (n := n) (w := (E j).1.2.2.1) hn.1
  have hc2 : cE E n j = fx (kE E) n (E j).1.2.2.1 := rfl
  unfold fo
  split
  · exact ⟨hj, (by decide : (-1 : Int) < 6)⟩
  · split
    · exact ⟨hj, hE j hj.1 hj.2⟩
    · split
      · exact ⟨by show 0 ≤ cE E n j ∧ cE E n j < 9; omega, hE _ (by omega) (by omega)⟩
      · exact ⟨hj, (by decide : (-1 : Int) < 6)⟩
set_option maxHeartbeats 4000000 in
set_option maxRecDepth 100000 in
theorem x_textOf (l : Launch) (D : va_G) {sh : s_S} {M : s_M} {sz o : Int} {hd : Int} {dn : Int} {O : Int → Int} {Q : Int → Int} {Z : Int → Int} {G : Int → Int} {WN : Int → Int} {n : Int} {f : Int → sva} {T1 : List Int} {T2 : List Int} {T3 : List Int} {U1 : sva} {U2 : sva} {PV : Int → Int} {PB : Int → Int} {PN : Int → Int} {PL : Int → Int} {PP : Int → Int} {ns : Int} {E : Int → sen} {np : Int} {tp : List Int} {K : Int → List Int} (h : mwd sh M sz o hd dn O Q Z G WN n f T1 T2 T3 U1 U2 PV PB PN PL PP ns E np tp K) {x : Int} (hx : rL x) : Sp l D y_Machine_textOf prog_5_method_16_code 3 (some (.object "CiteForge$Text")) 3 0 0 [vr (o + 225), vl x] sh M sz (fun v' sh' M' sz' => v' = some (vr (o + 239)) ∧ sh' = sh ∧ sz' = sz ∧ mwd sh M' sz o hd dn O Q Z G WN n f T1 T2 (uof (u64 x)) U1 U2 PV PB PN PL PP ns E np tp K ∧ fr (fun z => z = o + 1 ∨ (o + 2 ≤ z ∧ z < o + 157) ∨ (o + 183 ≤ z ∧ z ≤ o + 246)) M M') := by
  have ho := h.2.2.2.2.2.2.2.2.2.2.2.2.2.2
  refine Sp.ofGo (own := "CiteForge$Machine") (nm := "textOf") (by decide) rfl rfl (Nat.le_of_ble_eq_true rfl) (lv := [(0, vr (o + 225)), (1, vl x)]) rfl ?_
  intro g X
  refine go_aload_n X d_Machine_textOf_0 rfl rfl ?_
  refine go_get (v := vr (o + 239)) X f_Machine_63 h.2.2.1.1 rfl d_Machine_textOf_1 (s_vref (show M (o + 225) 12 = o + 239 from h.2.2.1.2.2.2.1.2.2.2.2.2.2.2.1.trans (by omega)) (by omega)) ?_
  refine go_lload_n X d_Machine_textOf_4 rfl rfl ?_
  refine go_top (v' := vl (u64 x)) X (u64_vl _) ?_
  refine go_cV (st2 := []) (r := []) X k_Machine_212 (x_setToBytes l D h (u64_rng _)) h.2.2.2.2.2.1.1.1 rfl rfl (by omega) (Nat.le_of_ble_eq_true rfl) d_Machine_textOf_5 (by omega) (by omega) (fun v' sh' M1 sz' hpp => ?_)
  obtain ⟨e1, e2, e3, rd2, fr3⟩ := hpp
  subst e1
  rw [e2, e3]
  clear e2 e3
  show Go g 0 0 sh M1 sz 8 [(0, vr (o + 225)), (1, vl x)] []
  refine go_aload_n X d_Machine_textOf_8 rfl rfl ?_
  refine go_get (v := vr (o + 239)) X f_Machine_63 rd2.2.2.1.1 rfl d_Machine_textOf_9 (s_vref (show M1 (o + 225) 12 = o + 239 from rd2.2.2.1.2.2.2.1.2.2.2.2.2.2.2.1.trans (by omega)) (by omega)) ?_
  refine go_aret X d_Machine_textOf_12 rfl (Or.inl ⟨_, rfl⟩) (Or.inr ⟨_, rfl⟩) (by omega) (by omega) ?_
  exact ⟨rfl, rfl, rfl, rd2, fr3⟩
set_option maxHeartbeats 4000000 in
set_option maxRecDepth 100000 in
theorem c_fieldAtHand (l : Launch) (D : va_G) {sh : s_S} {M : s_M} {sz o : Int} {hd : Int} {dn : Int} {O : Int → Int} {Q : Int → Int} {Z : Int → Int} {G : Int → Int} {WN : Int → Int} {n : Int} {f : Int → sva} {T1 : List Int} {T2 : List Int} {T3 : List Int} {U1 : sva} {U2 : sva} {PV : Int → Int} {PB : Int → Int} {PN : Int → Int} {PL : Int → Int} {PP : Int → Int} {ns : Int} {E : Int → sen} {np : Int} {tp : List Int} {K : Int → List Int} (h : mwd sh M sz o hd dn O Q Z G WN n f T1 T2 T3 U1 U2 PV PB PN PL PP ns E np tp K) {x : Int} (hx : rL x) (hhd : -1 ≤ hd ∧ hd < 8) : Sp l D y_Machine_fieldAtHand prog_5_method_13_code 3 (some (.object "CiteForge$Text")) 4 0 0 [vr (o + 225), vl x] sh M sz (pF (some (faq o hd ns E x)) sh M sz) := by
  have ho := h.2.2.2.2.2.2.2.2.2.2.2.2.2.2
  refine Sp.ofGo (own := "CiteForge$Machine") (nm := "fieldAtHand") (by decide) rfl rfl (Nat.le_of_ble_eq_true rfl) (lv := [(0, vr (o + 225)), (1, vl x)]) rfl ?_
  intro g X
  refine go_aload_n X d_Machine_fieldAtHand_0 rfl rfl ?_
  rcases Int.lt_or_le hd 0 with hh | hh
  · skip
    refine go_get (v := .null) X f_Machine_86 h.2.2.1.1 rfl d_Machine_fieldAtHand_1 (s_vnull (show M (o + 225) 15 < 0 from by rw [h.2.2.2.2.2.2.2.2.1.1]; unfold hqq; rw [if_neg (by omega)]; decide)) ?_
    refine go_ifnonnullN X d_Machine_fieldAtHand_4 ?_
    refine go_null X d_Machine_fieldAtHand_7 ?_
    refine go_goto (tgt := 23) X d_Machine_fieldAtHand_8 rfl ?_
    refine go_aret X d_Machine_fieldAtHand_23 rfl (Or.inl ⟨_, rfl⟩) (Or.inl rfl) (by omega) (by omega) ?_
    exact ⟨(congrArg some (if_neg (by omega) : faq o hd ns E x = .null)).symm, rfl, rfl, rfl⟩
  · skip
    refine go_get (v := vr (o + 2 + 2 + 17 * hd)) X f_Machine_86 h.2.2.1.1 rfl d_Machine_fieldAtHand_1 (s_vref (show M (o + 225) 15 = o + 2 + 2 + 17 * hd from h.2.2.2.2.2.2.2.2.1.1.trans (if_pos hh)) (by omega)) ?_
    refine go_ifnonnull (tgt := 11) X d_Machine_fieldAtHand_4 rfl ?_
    refine go_aload_n X d_Machine_fieldAtHand_11 rfl rfl ?_
    refine go_get (v := vr (o + 2)) X f_Machine_9 h.2.2.1.1 rfl d_Machine_fieldAtHand_12 (s_vref (show M (o + 225) 0 = o + 2 from h.2.2.1.2.2.1.1) (by omega)) ?_
    refine go_aload_n X d_Machine_fieldAtHand_15 rfl rfl ?_
    refine go_get (v := vr (o + 2 + 2 + 17 * hd)) X f_Machine_86 h.2.2.1.1 rfl d_Machine_fieldAtHand_16 (s_vref (show M (o + 225) 15 = o + 2 + 2 + 17 * hd from h.2.2.2.2.2.2.2.2.1.1.trans (if_pos hh)) (by omega)) ?_
    refine go_lload_n X d_Machine_fieldAtHand_19 rfl rfl ?_
    refine go_cVf (st2 := [fq (o + 2 + 2 + 17 * (fo E ns hd x).1 + 2) (fo E ns hd x).2]) (r := []) X k_Machine_181 (c_Shelf_fieldOf l D h.2.2.2.2.2.2.2.2.2.1 (j := hd) (by omega) hx) h.2.2.2.2.2.2.2.2.2.1.1 rfl rfl (by omega) (Nat.le_of_ble_eq_true rfl) d_Machine_fieldAtHand_20 (by omega) (by omega) rfl ?_
    rcases Int.lt_or_le (fo E ns hd x).2 0 with hf9 | hf9
    · skip
      refine go_top (v' := .null) X (if_neg (by omega)) ?_
      refine go_aret X d_Machine_fieldAtHand_23 rfl (Or.inl ⟨_, rfl⟩) (Or.inl rfl) (by omega) (by omega) ?_
      exact ⟨(congrArg some (if_neg (by omega) : faq o hd ns E x = .null)).symm, rfl, rfl, rfl⟩
    · skip
      have hfr := fo_rng (v := x) (h.2.2.2.2.2.2.2.2.2.1) (j := hd) (by omega)
      refine go_top (v' := vr (o + 2 + 2 + 17 * (fo E ns hd x).1 + 2 + 1 + 2 * (fo E ns hd x).2)) X (if_pos hf9) ?_
      refine go_aret X d_Machine_fieldAtHand_23 rfl (Or.inl ⟨_, rfl⟩) (Or.inr ⟨_, rfl⟩) (by omega) (by omega) ?_
      exact ⟨(congrArg some (if_pos ⟨hh, hf9⟩ : faq o hd ns E x = _)).symm, rfl, rfl, rfl⟩
set_option maxHeartbeats 4000000 in
set_option maxRecDepth 100000 in
theorem x_reckon (l : Launch) (D : va_G) {sh : s_S} {M : s_M} {sz o : Int} {hd : Int} {dn : Int} {O : Int → Int} {Q : Int → Int} {Z : Int → Int} {G : Int → Int} {WN : Int → Int} {n : Int} {f : Int → sva} {T1 : List Int} {T2 : List Int} {T3 : List Int} {U1 : sva} {U2 : sva} {PV : Int → Int} {PB : Int → Int} {PN : Int → Int} {PL : Int → Int} {PP : Int → Int} {ns : Int} {E : Int → sen} {np : Int} {tp : List Int} {K : Int → List Int} (h : mwd sh M sz o hd dn O Q Z G WN n f T1 T2 T3 U1 U2 PV PB PN PL PP ns E np tp K) {op : Int} (hop : 3 ≤ op ∧ op ≤ 6) : Sp l D y_Machine_reckon prog_5_method_14_code 4 (some .int) 3 0 0 [vr (o + 225), vi op] sh M sz (fun v' sh' M' sz' => v' = some (vi (rck op (qn (pn n) f) (qn n f))) ∧ sh' = sh ∧ sz' = sz ∧ mwd sh M' sz o hd dn O Q Z G (qW (pn n) f (qW n f WN)) (pn (pn n)) f T1 T2 T3 U1 U2 PV PB PN PL PP ns E np tp K ∧ fr (fun z => z = o + 1 ∨ (o + 2 ≤ z ∧ z < o + 157) ∨ (o + 183 ≤ z ∧ z ≤ o + 246)) M M') := by
  have ho := h.2.2.2.2.2.2.2.2.2.2.2.2.2.2
  refine Sp.ofGo (own := "CiteForge$Machine") (nm := "reckon") (by decide) rfl rfl (Nat.le_of_ble_eq_true rfl) (lv := [(0, vr (o + 225)), (1, vi op)]) rfl ?_
  intro g X
  refine go_aload_n X d_Machine_reckon_0 rfl rfl ?_
  refine go_get (v := vr (o + 183)) X f_Machine_19 h.2.2.1.1 rfl d_Machine_reckon_1 (s_vref (show M (o + 225) 2 = o + 183 from h.2.2.1.2.2.1.2.2.1) (by omega)) ?_
  have hr1 := qn_rng h.2.1
  refine go_cV (st2 := []) (r := []) X k_Machine_124 (x_takeNumber l D h ) h.2.1.1 rfl rfl (by omega) (Nat.le_of_ble_eq_true rfl) d_Machine_reckon_4 (by omega) (by omega) (fun v' sh' M2 sz' hpp => ?_)
  obtain ⟨e1, e2, e3, rd3, fr4⟩ := hpp
  subst e1
  rw [e2, e3]
  clear e2 e3
  show Go g 0 0 sh M2 sz 7 [(0, vr (o + 225)), (1, vi op)] [vi (qn n f)]
  refine go_istore_n (lv' := [(2, vi (qn n f)), (0, vr (o + 225)), (1, vi op)]) X d_Machine_reckon_7 rfl (by decide) rfl ?_
  refine go_aload_n X d_Machine_reckon_8 rfl rfl ?_
  refine go_get (v := vr (o + 183)) X f_Machine_19 rd3.2.2.1.1 rfl d_Machine_reckon_9 (s_vref (show M2 (o + 225) 2 = o + 183 from rd3.2.2.1.2.2.1.2.2.1) (by omega)) ?_
  have hr6 := qn_rng rd3.2.1
  refine go_cV (st2 := []) (r := []) X k_Machine_124 (x_takeNumber l D rd3 ) rd3.2.1.1 rfl rfl (by omega) (Nat.le_of_ble_eq_true rfl) d_Machine_reckon_12 (by omega) (by omega) (fun v' sh' M7 sz' hpp => ?_)
  obtain ⟨e1, e2, e3, rd8, fr9⟩ := hpp
  subst e1
  rw [e2, e3]
  clear e2 e3
  show Go g 0 0 sh M7 sz 15 [(2, vi (qn n f)), (0, vr (o + 225)), (1, vi op)] [vi (qn (pn n) f)]
  have fr10 : fr (fun z => z = o + 1 ∨ (o + 2 ≤ z ∧ z < o + 157) ∨ (o + 183 ≤ z ∧ z ≤ o + 246)) M M7 := fun z hz => (fr9 z hz).trans (fr4 z hz)
  refine go_istore_n (lv' := [(3, vi (qn (pn n) f)), (2, vi (qn n f)), (0, vr (o + 225)), (1, vi op)]) X d_Machine_reckon_15 rfl (by decide) rfl ?_
  refine go_iload_n X d_Machine_reckon_16 rfl rfl ?_
  rcases (show (op < 3 ∨ 5 < op) ∨ op = 3 ∨ op = 4 ∨ op = 5 by omega) with ht11 | ht11 | ht11 | ht11
  · skip
    refine go_tabOut (tgt := 63) X d_Machine_reckon_17 (by omega) ht11 rfl ?_
    refine go_iload_n X d_Machine_reckon_63 rfl rfl ?_
    refine go_iload_n X d_Machine_reckon_64 rfl rfl ?_
    refine go_icmp_le (tgt := 72) X d_Machine_reckon_65 rfl (by omega) (by omega) (fun hq12 => ?_) (fun hq12 => ?_)
    · skip
      refine go_iconst (v := 0) X d_Machine_reckon_72 ?_
      refine go_iret X d_Machine_reckon_73 rfl ?_ (by omega) (by omega) ?_
      · rfl
      have hT : rck op (qn (pn n) f) (qn n f) = 0 := by unfold rck; rw [if_neg (by omega), if_neg (by omega)]; first | rw [if_pos (by omega), if_pos (by omega)] | rw [if_pos (by omega), if_neg (by omega)] | rw [if_neg (by omega), if_pos (by omega)] | rw [if_neg (by omega), if_neg (by omega)]
      rw [hT]
      exact ⟨rfl, rfl, rfl, rd8, fr10⟩
    · skip
      refine go_iconst (v := 1) X d_Machine_reckon_68 ?_
      refine go_goto (tgt := 73) X d_Machine_reckon_69 rfl ?_
      refine go_iret X d_Machine_reckon_73 rfl ?_ (by omega) (by omega) ?_
      · rfl
      have hT : rck op (qn (pn n) f) (qn n f) = 1 := by unfold rck; rw [if_neg (by omega), if_neg (by omega)]; first | rw [if_pos (by omega), if_pos (by omega)] | rw [if_pos (by omega), if_neg (by omega)] | rw [if_neg (by omega), if_pos (by omega)] | rw [if_neg (by omega), if_neg (by omega)]
      rw [hT]
      exact ⟨rfl, rfl, rfl, rd8, fr10⟩
  · skip
    refine go_tabIn (off := 27) (tgt := 44) X d_Machine_reckon_17 (by omega) (by omega) (by omega) (by rw [ht11]; rfl) rfl ?_
    refine go_iload_n X d_Machine_reckon_44 rfl rfl ?_
    refine go_iload_n X d_Machine_reckon_45 rfl rfl ?_
    refine go_iadd X d_Machine_reckon_46 ?_
    refine go_iret X d_Machine_reckon_47 rfl ?_ (by omega) (by omega) ?_
    · rfl
    have hT : rck op (qn (pn n) f) (qn n f) = wi32 ((qn (pn n) f) + (qn n f)) := if_pos (by omega)
    rw [hT]
    exact ⟨congrArg some (wi32_vi _), rfl, rfl, rd8, fr10⟩
  · skip
    refine go_tabIn (off := 31) (tgt := 48) X d_Machine_reckon_17 (by omega) (by omega) (by omega) (by rw [ht11]; rfl) rfl ?_
    refine go_iload_n X d_Machine_reckon_48 rfl rfl ?_
    refine go_iload_n X d_Machine_reckon_49 rfl rfl ?_
    refine go_isub X d_Machine_reckon_50 ?_
    refine go_iret X d_Machine_reckon_51 rfl ?_ (by omega) (by omega) ?_
    · rfl
    have hT : rck op (qn (pn n) f) (qn n f) = wi32 ((qn (pn n) f) - (qn n f)) := (if_neg (by omega)).trans (if_pos (by omega))
    rw [hT]
    exact ⟨congrArg some (wi32_vi _), rfl, rfl, rd8, fr10⟩
  · skip
    refine go_tabIn (off := 35) (tgt := 52) X d_Machine_reckon_17 (by omega) (by omega) (by omega) (by rw [ht11]; rfl) rfl ?_
    refine go_iload_n X d_Machine_reckon_52 rfl rfl ?_
    refine go_iload_n X d_Machine_reckon_53 rfl rfl ?_
    refine go_icmp_ge (tgt := 61) X d_Machine_reckon_54 rfl (by omega) (by omega) (fun hq13 => ?_) (fun hq13 => ?_)
    · skip
      refine go_iconst (v := 0) X d_Machine_reckon_61 ?_
      refine go_iret X d_Machine_reckon_62 rfl ?_ (by omega) (by omega) ?_
      · rfl
      have hT : rck op (qn (pn n) f) (qn n f) = 0 := by unfold rck; rw [if_neg (by omega), if_neg (by omega)]; first | rw [if_pos (by omega), if_pos (by omega)] | rw [if_pos (by omega), if_neg (by omega)] | rw [if_neg (by omega), if_pos (by omega)] | rw [if_neg (by omega), if_neg (by omega)]
      rw [hT]
      exact ⟨rfl, rfl, rfl, rd8, fr10⟩
    · skip
      refine go_iconst (v := 1) X d_Machine_reckon_57 ?_
      refine go_goto (tgt := 62) X d_Machine_reckon_58 rfl ?_
      refine go_iret X d_Machine_reckon_62 rfl ?_ (by omega) (by omega) ?_
      · rfl
      have hT : rck op (qn (pn n) f) (qn n f) = 1 := by unfold rck; rw [if_neg (by omega), if_neg (by omega)]; first | rw [if_pos (by omega), if_pos (by omega)] | rw [if_pos (by omega), if_neg (by omega)] | rw [if_neg (by omega), if_pos (by omega)] | rw [if_neg (by omega), if_neg (by omega)]
      rw [hT]
      exact ⟨rfl, rfl, rfl, rd8, fr10⟩
