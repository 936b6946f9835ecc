def RFc (l : Launch) (D : va_G) (o hd ns : Int) (O Q Z : Int → Int) (d : Nat) (lv : Int) (F : rfT) : Prop := ∀ (sh : s_S) (M : s_M) (sz : Int) (s : rnT) (f : Int), 0 ≤ f ∧ f < 6 → rok s → mwx sh M sz o hd O Q Z ns s → Sp l D y_Machine_runFunction prog_5_method_9_code 8 (some .boolean) d (kc s.2.2.1.1 (F f s).2.2.2.1.1) (91 * kc s.2.2.1.1 (F f s).2.2.2.1.1) [vr (o + 225), vl f, vi lv] sh M sz (rpo o hd ns O Q Z sh M sz s (F f s))
theorem rok_dni {s : rnT} (h : rok s) (h4 : s.2.2.2.1 < 400) : rok (dni s) := by
  obtain ⟨h1, h2⟩ := h
  refine ⟨?_, ?_⟩
  · show 0 ≤ s.2.2.2.1 + 1 ∧ s.2.2.2.1 + 1 ≤ 400
    omega
  · show s.2.2.1.1 + 200 * (400 - (s.2.2.2.1 + 1)) ≤ 2147000000
    omega
/-- what the operations may be -/
def opk (O Q Z : Int → Int) : Prop := (∀ i, 0 ≤ O i ∧ O i < 30) ∧ (∀ i, rL (Q i)) ∧ (∀ i, 13 ≤ O i → 0 ≤ Q i) ∧ ∀ f, 0 ≤ f → f < 6 → 0 ≤ Z f ∧ Z f ≤ 24
set_option maxHeartbeats 4000000 in
set_option maxRecDepth 100000 in
theorem c_runWhile (l : Launch) (D : va_G) {sh : s_S} {M : s_M} {sz o hd ns : Int} {O Q Z : Int → Int} {s : rnT} {d : Nat} (hd9 : 9 ≤ d) {lv : Int} {F : rfT} (hF : RFc l D o hd ns O Q Z d lv F) (hg : ∀ f s, rok s → grw s (F f s).2) {a b : Int} (ha : 0 ≤ a ∧ a < 6) (hb : 0 ≤ b ∧ b < 6) (hr : rok s) (hX : mwx sh M sz o hd O Q Z ns s) : Sp l D y_Machine_runWhile prog_5_method_11_code 7 (some .boolean) (d + 1) (kc s.2.2.1.1 (whl F a b ((1000000 : Int) - 0).toNat s).2.2.2.1.1) (91 * kc s.2.2.1.1 (whl F a b ((1000000 : Int) - 0).toNat s).2.2.2.1.1) [vr (o + 225), vl a, vl b, vi lv] sh M sz (rpo o hd ns O Q Z sh M sz s (whl F a b ((1000000 : Int) - 0).toNat s)) := by
  have rx0 := rnx.zero hX hr
  refine Sp.ofGo (own := "CiteForge$Machine") (nm := "runWhile") (by decide) rfl rfl (Nat.le_of_ble_eq_true rfl) (lv := [(0, vr (o + 225)), (1, vl a), (3, vl b), (5, vi lv)]) rfl ?_
  intro g X
  refine go_iconst (v := 0) X d_Machine_runWhile_0 ?_
  refine go_istore (lv' := [(6, vi 0), (0, vr (o + 225)), (1, vl a), (3, vl b), (5, vi lv)]) X d_Machine_runWhile_1 (by decide) rfl ?_
  have lp : ∀ (fuel : Nat) (i : Int) (s1 : rnT) (shx : s_S) (Mx : s_M) (zx : Int), 0 ≤ i ∧ i ≤ 1000000 → rnx sh M sz o hd ns O Q Z s shx Mx zx s1 → whl F a b ((1000000 : Int) - i).toNat s1 = whl F a b ((1000000 : Int) - 0).toNat s → ((1000000 : Int) - i).toNat < fuel → Go g (kc s.2.2.1.1 s1.2.2.1.1) (91 * kc s.2.2.1.1 s1.2.2.1.1) shx Mx zx 3 [(0, vr (o + 225)), (1, vl a), (3, vl b), (5, vi lv), (6, vi i)] [] := by
    intro fuel
    induction fuel with
    | zero => intro i s1 shx Mx zx hi hx1 hp hm; exact absurd hm (Nat.not_lt_zero _)
    | succ fuel ih =>
      intro i s1 shx Mx zx hi hx1 hp hm
      have hr1 := hx1.2.2.2.2.2
      have hg0 := whl_g (a := a) (b := b) hg ((1000000 : Int) - i).toNat s1 hr1
      rw [hp] at hg0
      have hkn := kc_le (a := s.2.2.1.1) hg0.1
      refine go_iload X d_Machine_runWhile_3 rfl ?_
      refine go_ldc (x := 1000000) X w_ki_Machine_129 (by decide) d_Machine_runWhile_5 ?_
      refine go_icmp_ge (tgt := 52) X d_Machine_runWhile_7 rfl (by omega) (by omega) (fun hq1 => ?_) (fun hq1 => ?_)
      · skip
        refine go_iconst (v := 0) X d_Machine_runWhile_52 ?_
        refine go_iret X d_Machine_runWhile_53 rfl ?_ (by omega) (by omega) ?_
        · rfl
        have hT : whl F a b ((1000000 : Int) - 0).toNat s = (false, s1) := by rw [show ((1000000 : Int) - i).toNat = 0 by omega] at hp; exact hp.symm
        rw [hT]
        exact ⟨rfl, hx1.2.1, hx1.2.2.1, hx1.1, hx1.2.2.2.1⟩
      · skip
        have hwst : whl F a b ((1000000 : Int) - i).toNat s1 = if (F a s1).1 = true then (if 0 < vN (F a s1).2.1 then (if (F b (stn (F a s1).2)).1 = true then whl F a b ((1000000 : Int) - (i + 1)).toNat (F b (stn (F a s1).2)).2 else (false, (F b (stn (F a s1).2)).2)) else (true, stn (F a s1).2)) else (false, (F a s1).2) := by rw [show ((1000000 : Int) - i).toNat = ((1000000 : Int) - (i + 1)).toNat + 1 by omega]; exact whl_s F a b _ s1
        have hgA := whl_g1 (a := a) (b := b) hg ((1000000 : Int) - (i + 1)).toNat s1 hr1
        rw [show ((1000000 : Int) - (i + 1)).toNat + 1 = ((1000000 : Int) - i).toNat by omega, hp] at hgA
        obtain ⟨T1, T2, T3, U1, U2, hw2⟩ := hx1.1
        have ho3 := hw2.2.2.2.2.2.2.2.2.2.2.2.2.2.2
        refine go_aload_n X d_Machine_runWhile_10 rfl rfl ?_
        refine go_lload_n X d_Machine_runWhile_11 rfl rfl ?_
        refine go_iload X d_Machine_runWhile_12 rfl ?_
        have hg2 : grw s1 ((F a s1).2) := hg a s1 hr1
        have hg3 := hgA
        have hA : kc s.2.2.1.1 s1.2.2.1.1 + kc s1.2.2.1.1 ((F a s1).2).2.2.1.1 = kc s.2.2.1.1 ((F a s1).2).2.2.1.1 := kc_add hx1.2.2.2.2.1 hg2.1
        have hB := kc_le (a := s.2.2.1.1) hg3.1
        refine go_cV (st2 := []) (r := []) X k_Machine_90 (hF shx Mx zx s1 a ha hr1 hx1.1) hw2.2.2.1.1 rfl rfl (by omega) (Nat.le_of_ble_eq_true rfl) d_Machine_runWhile_14 (by omega) (by omega) (fun v' sh4 M5 zs6 hpp => ?_)
        obtain ⟨e1, ez, es, eX, ef⟩ := hpp
        subst e1
        have rx7 := hx1.step eX ez es ef hg2
        refine go_kn (k' := kc s.2.2.1.1 ((F a s1).2).2.2.1.1) (n' := 91 * kc s.2.2.1.1 ((F a s1).2).2.2.1.1) (sz' := zs6) (by omega) (by omega) rfl ?_
        clear ez es eX ef
        show Go g (kc s.2.2.1.1 ((F a s1).2).2.2.1.1) (91 * kc s.2.2.1.1 ((F a s1).2).2.2.1.1) sh4 M5 zs6 17 [(0, vr (o + 225)), (1, vl a), (3, vl b), (5, vi lv), (6, vi i)] [vi (s_b (F a s1).1)]
        refine go_ifb_ne (tgt := 22) X d_Machine_runWhile_17 rfl (fun hq8 => ?_) (fun hq8 => ?_)
        · skip
          obtain ⟨T1, T2, T3, U1, U2, hw9⟩ := rx7.1
          have ho10 := hw9.2.2.2.2.2.2.2.2.2.2.2.2.2.2
          refine go_aload_n X d_Machine_runWhile_22 rfl rfl ?_
          refine go_get (v := vr (o + 183)) X f_Machine_19 hw9.2.2.1.1 rfl d_Machine_runWhile_23 (s_vref (show M5 (o + 225) 2 = o + 183 from hw9.2.2.1.2.2.1.2.2.1) (by omega)) ?_
          have hqr := qn_rng hw9.2.1
          refine go_cV (st2 := []) (r := []) X k_Machine_124 (x_takeNumber l D hw9 ) hw9.2.1.1 rfl rfl (by omega) (Nat.le_of_ble_eq_true rfl) d_Machine_runWhile_26 (by omega) (by omega) (fun v' sh' M11 sz' hpp => ?_)
          obtain ⟨e1, e2, e3, rd12, fr13⟩ := hpp
          subst e1
          rw [e2, e3]
          clear e2 e3
          show Go g (kc s.2.2.1.1 ((F a s1).2).2.2.1.1) (91 * kc s.2.2.1.1 ((F a s1).2).2.2.1.1) sh4 M11 zs6 29 [(0, vr (o + 225)), (1, vl a), (3, vl b), (5, vi lv), (6, vi i)] [vi (qn (((F a s1).2).1.2.1) (((F a s1).2).1.2.2))]
          have rx15 : rnx sh M sz o hd ns O Q Z s sh4 M11 zs6 (stn (F a s1).2) := rx7.flat ⟨T1, T2, T3, U1, U2, rd12⟩ rfl fr13 hg2.2
          refine go_if_gt (tgt := 34) X d_Machine_runWhile_29 rfl (by omega) (fun hq16 => ?_) (fun hq16 => ?_)
          · skip
            refine go_aload_n X d_Machine_runWhile_34 rfl rfl ?_
            refine go_lload_n X d_Machine_runWhile_35 rfl rfl ?_
            refine go_iload X d_Machine_runWhile_36 rfl ?_
            have hgB := whl_g2 (a := a) (b := b) hg ((1000000 : Int) - (i + 1)).toNat s1 hr1 hq8 hq16
            rw [show ((1000000 : Int) - (i + 1)).toNat + 1 = ((1000000 : Int) - i).toNat by omega, hp] at hgB
            have hrs : rok (stn (F a s1).2) := hg2.2
            obtain ⟨T1, T2, T3, U1, U2, hw17⟩ := rx15.1
            have ho18 := hw17.2.2.2.2.2.2.2.2.2.2.2.2.2.2
            have hg2 : grw (stn (F a s1).2) ((F b (stn (F a s1).2)).2) := hg b (stn (F a s1).2) hrs
            have hg3 := hgB
            have hA : kc s.2.2.1.1 ((F a s1).2).2.2.1.1 + kc (stn (F a s1).2).2.2.1.1 ((F b (stn (F a s1).2)).2).2.2.1.1 = kc s.2.2.1.1 ((F b (stn (F a s1).2)).2).2.2.1.1 := kc_add rx15.2.2.2.2.1 hg2.1
            have hB := kc_le (a := s.2.2.1.1) hg3.1
            refine go_cV (st2 := []) (r := []) X k_Machine_90 (hF sh4 M11 zs6 (stn (F a s1).2) b hb hrs rx15.1) hw17.2.2.1.1 rfl rfl (by omega) (Nat.le_of_ble_eq_true rfl) d_Machine_runWhile_38 (by omega) (by omega) (fun v' sh19 M20 zs21 hpp => ?_)
            obtain ⟨e1, ez, es, eX, ef⟩ := hpp
            subst e1
            have rx22 := rx15.step eX ez es ef hg2
            refine go_kn (k' := kc s.2.2.1.1 ((F b (stn (F a s1).2)).2).2.2.1.1) (n' := 91 * kc s.2.2.1.1 ((F b (stn (F a s1).2)).2).2.2.1.1) (sz' := zs21) (by omega) (by omega) rfl ?_
            clear ez es eX ef
            show Go g (kc s.2.2.1.1 ((F b (stn (F a s1).2)).2).2.2.1.1) (91 * kc s.2.2.1.1 ((F b (stn (F a s1).2)).2).2.2.1.1) sh19 M20 zs21 41 [(0, vr (o + 225)), (1, vl a), (3, vl b), (5, vi lv), (6, vi i)] [vi (s_b (F b (stn (F a s1).2)).1)]
            refine go_ifb_ne (tgt := 46) X d_Machine_runWhile_41 rfl (fun hq23 => ?_) (fun hq23 => ?_)
            · skip
              refine go_iinc (v := 1) (x := i) (lv' := [(6, vi (i + 1)), (0, vr (o + 225)), (1, vl a), (3, vl b), (5, vi lv)]) X d_Machine_runWhile_46 rfl (by decide) rfl ?_
              refine go_goto (tgt := 3) X d_Machine_runWhile_49 rfl ?_
              have hn9 : whl F a b ((1000000 : Int) - (i + 1)).toNat (F b (stn (F a s1).2)).2 = whl F a b ((1000000 : Int) - 0).toNat s := by rw [hwst, if_pos hq8, if_pos (show 0 < vN (F a s1).2.1 from hq16), if_pos hq23] at hp; exact hp
              refine go_lv (lv' := [(0, vr (o + 225)), (1, vl a), (3, vl b), (5, vi lv), (6, vi (i + 1))]) X [1, 2, 3, 4, 0] rfl ?_
              exact ih (i + 1) (F b (stn (F a s1).2)).2 sh19 M20 zs21 (by omega) rx22 hn9 (by omega)
            · skip
              refine go_iconst (v := 0) X d_Machine_runWhile_44 ?_
              refine go_iret X d_Machine_runWhile_45 rfl ?_ (by omega) (by omega) ?_
              · rfl
              rw [hwst] at hp
              rw [if_pos hq8, if_pos (show 0 < vN (F a s1).2.1 from hq16), if_neg (by rw [hq23]; decide)] at hp
              rw [← hp]
              exact ⟨rfl, rx22.2.1, rx22.2.2.1, rx22.1, rx22.2.2.2.1⟩
          · skip
            refine go_iconst (v := 1) X d_Machine_runWhile_32 ?_
            refine go_iret X d_Machine_runWhile_33 rfl ?_ (by omega) (by omega) ?_
            · rfl
            rw [hwst] at hp
            rw [if_pos hq8, if_neg (show ¬ 0 < vN (F a s1).2.1 from Int.not_lt.mpr hq16)] at hp
            rw [← hp]
            exact ⟨rfl, rx15.2.1, rx15.2.2.1, rx15.1, rx15.2.2.2.1⟩
        · skip
          refine go_iconst (v := 0) X d_Machine_runWhile_20 ?_
          refine go_iret X d_Machine_runWhile_21 rfl ?_ (by omega) (by omega) ?_
          · rfl
          rw [hwst] at hp
          rw [if_neg (by rw [hq8]; decide)] at hp
          rw [← hp]
          exact ⟨rfl, rx7.2.1, rx7.2.2.1, rx7.1, rx7.2.2.2.1⟩
  have hk0 := kc_self s.2.2.1.1
  refine go_kn (k' := kc s.2.2.1.1 s.2.2.1.1) (n' := 91 * kc s.2.2.1.1 s.2.2.1.1) (sz' := sz) (by omega) (by omega) rfl ?_
  refine go_lv (lv' := [(0, vr (o + 225)), (1, vl a), (3, vl b), (5, vi lv), (6, vi 0)]) X [1, 2, 3, 4, 0] rfl ?_
  exact lp _ 0 s sh M sz (by omega) rx0 rfl (Nat.lt_succ_self _)
set_option maxHeartbeats 4000000 in
set_option maxRecDepth 100000 in
theorem c_runInner (l : Launch) (D : va_G) {sh : s_S} {M : s_M} {sz o hd ns : Int} {O Q Z : Int → Int} {s : rnT} {d : Nat} (hd9 : 9 ≤ d) {lv : Int} {F : rfT} (hF : RFc l D o hd ns O Q Z d lv F) (hg : ∀ f s, rok s → grw s (F f s).2) {op x : Int} (hop : 13 ≤ op ∧ op ≤ 15) (hx : 0 ≤ x ∧ x < 9223372036854775808) (hr : rok s) (hX : mwx sh M sz o hd O Q Z ns s) : Sp l D y_Machine_runInner prog_5_method_10_code 9 (some .boolean) (d + 2) (kc s.2.2.1.1 (rin F op x s).2.2.2.1.1) (91 * kc s.2.2.1.1 (rin F op x s).2.2.2.1.1) [vr (o + 225), vi op, vl x, vi lv] sh M sz (rpo o hd ns O Q Z sh M sz s (rin F op x s)) := by
  have rx0 := rnx.zero hX hr
  refine Sp.ofGo (own := "CiteForge$Machine") (nm := "runInner") (by decide) rfl rfl (Nat.le_of_ble_eq_true rfl) (lv := [(0, vr (o + 225)), (1, vi op), (2, vl x), (4, vi lv)]) rfl ?_
  intro g X
  obtain ⟨T1, T2, T3, U1, U2, hw1⟩ := rx0.1
  have ho2 := hw1.2.2.2.2.2.2.2.2.2.2.2.2.2.2
  refine go_lload_n X d_Machine_runInner_0 rfl rfl ?_
  refine go_ldc2 (x := 6) X w_kl_Machine_118 (by decide) d_Machine_runInner_1 ?_
  refine go_lrem (z := x % 6) X d_Machine_runInner_4 (by decide) (l_remc (by omega) (by decide)) ?_
  refine go_lstore (lv' := [(5, vl (x % 6)), (0, vr (o + 225)), (1, vi op), (2, vl x), (4, vi lv)]) X d_Machine_runInner_5 (by decide) rfl ?_
  refine go_lload_n X d_Machine_runInner_7 rfl rfl ?_
  refine go_ldc2 (x := 6) X w_kl_Machine_118 (by decide) d_Machine_runInner_8 ?_
  refine go_ldiv (z := x / 6) X d_Machine_runInner_11 (by decide) (l_divc (by omega) (by decide)) ?_
  refine go_ldc2 (x := 6) X w_kl_Machine_118 (by decide) d_Machine_runInner_12 ?_
  refine go_lrem (z := (x / 6) % 6) X d_Machine_runInner_15 (by decide) (l_remc (by omega) (by decide)) ?_
  refine go_lstore (lv' := [(7, vl ((x / 6) % 6)), (5, vl (x % 6)), (0, vr (o + 225)), (1, vi op), (2, vl x), (4, vi lv)]) X d_Machine_runInner_16 (by decide) rfl ?_
  refine go_iload_n X d_Machine_runInner_18 rfl rfl ?_
  refine go_bipush (v := 14) X d_Machine_runInner_19 (by decide) ?_
  refine go_icmp_ne (tgt := 35) X d_Machine_runInner_21 rfl (by omega) (by omega) (fun hq3 => ?_) (fun hq3 => ?_)
  · skip
    refine go_iload_n X d_Machine_runInner_35 rfl rfl ?_
    refine go_bipush (v := 13) X d_Machine_runInner_36 (by decide) ?_
    refine go_icmp_ne (tgt := 60) X d_Machine_runInner_38 rfl (by omega) (by omega) (fun hq4 => ?_) (fun hq4 => ?_)
    · skip
      refine go_aload_n X d_Machine_runInner_60 rfl rfl ?_
      refine go_lload X d_Machine_runInner_61 rfl ?_
      refine go_iload X d_Machine_runInner_63 rfl ?_
      have hT : rin F op x s = F (x % 6) s := (if_neg (by omega)).trans (if_neg (by omega))
      have hk1 : kc s.2.2.1.1 (F (x % 6) s).2.2.2.1.1 = kc s.2.2.1.1 (rin F op x s).2.2.2.1.1 := (congrArg (fun q : Bool × rnT => kc s.2.2.1.1 q.2.2.2.1.1) hT).symm
      refine go_cV (st2 := []) (r := []) X k_Machine_90 (hF sh M sz s (x % 6) (by omega) hr hX) hw1.2.2.1.1 rfl rfl (by omega) (Nat.le_of_ble_eq_true rfl) d_Machine_runInner_65 (by omega) (by omega) (fun v' shn Mn zn hpp => ?_)
      obtain ⟨e1, ez, es, eX, ef⟩ := hpp
      subst e1
      show Go g (0 + kc s.2.2.1.1 (F (x % 6) s).2.2.2.1.1) (0 + 91 * kc s.2.2.1.1 (F (x % 6) s).2.2.2.1.1) shn Mn zn 68 [(7, vl ((x / 6) % 6)), (5, vl (x % 6)), (0, vr (o + 225)), (1, vi op), (2, vl x), (4, vi lv)] [vi (s_b (F (x % 6) s).1)]
      refine go_iret X d_Machine_runInner_68 rfl ?_ (by omega) (by omega) ?_
      · exact s_b_nar _
      rw [hT]
      exact ⟨rfl, ez, es, eX, ef⟩
    · skip
      refine go_aload_n X d_Machine_runInner_41 rfl rfl ?_
      refine go_get (v := vr (o + 183)) X f_Machine_19 hw1.2.2.1.1 rfl d_Machine_runInner_42 (s_vref (show M (o + 225) 2 = o + 183 from hw1.2.2.1.2.2.1.2.2.1) (by omega)) ?_
      have hqr := qn_rng hw1.2.1
      refine go_cV (st2 := []) (r := []) X k_Machine_124 (x_takeNumber l D hw1 ) hw1.2.1.1 rfl rfl (by omega) (Nat.le_of_ble_eq_true rfl) d_Machine_runInner_45 (by omega) (by omega) (fun v' sh' M5 sz' hpp => ?_)
      obtain ⟨e1, e2, e3, rd6, fr7⟩ := hpp
      subst e1
      rw [e2, e3]
      clear e2 e3
      show Go g 0 0 sh M5 sz 48 [(7, vl ((x / 6) % 6)), (5, vl (x % 6)), (0, vr (o + 225)), (1, vi op), (2, vl x), (4, vi lv)] [vi (qn (s.1.2.1) (s.1.2.2))]
      have hX2 : mwx sh M5 sz o hd O Q Z ns (stn s) := ⟨T1, T2, T3, U1, U2, rd6⟩
      refine go_if_le (tgt := 60) X d_Machine_runInner_48 rfl (by omega) (fun hq9 => ?_) (fun hq9 => ?_)
      · skip
        refine go_aload_n X d_Machine_runInner_60 rfl rfl ?_
        refine go_lload X d_Machine_runInner_61 rfl ?_
        refine go_iload X d_Machine_runInner_63 rfl ?_
        have hT : rin F op x s = F (x % 6) (stn s) := (if_neg (by omega)).trans ((if_pos (by omega)).trans (if_neg (show ¬ 0 < vN s.1 from Int.not_lt.mpr hq9)))
        have hk1 : kc (stn s).2.2.1.1 (F (x % 6) (stn s)).2.2.2.1.1 = kc s.2.2.1.1 (rin F op x s).2.2.2.1.1 := (congrArg (fun q : Bool × rnT => kc s.2.2.1.1 q.2.2.2.1.1) hT).symm
        refine go_cV (st2 := []) (r := []) X k_Machine_90 (hF sh M5 sz (stn s) (x % 6) (by omega) hr hX2) rd6.2.2.1.1 rfl rfl (by omega) (Nat.le_of_ble_eq_true rfl) d_Machine_runInner_65 (by omega) (by omega) (fun v' shn Mn zn hpp => ?_)
        obtain ⟨e1, ez, es, eX, ef⟩ := hpp
        subst e1
        show Go g (0 + kc (stn s).2.2.1.1 (F (x % 6) (stn s)).2.2.2.1.1) (0 + 91 * kc (stn s).2.2.1.1 (F (x % 6) (stn s)).2.2.2.1.1) shn Mn zn 68 [(7, vl ((x / 6) % 6)), (5, vl (x % 6)), (0, vr (o + 225)), (1, vi op), (2, vl x), (4, vi lv)] [vi (s_b (F (x % 6) (stn s)).1)]
        refine go_iret X d_Machine_runInner_68 rfl ?_ (by omega) (by omega) ?_
        · exact s_b_nar _
        rw [hT]
        exact ⟨rfl, ez, es, eX, fun z hz => (ef z hz).trans (fr7 z (fun q => hz (Or.inl q)))⟩
      · skip
        refine go_aload_n X d_Machine_runInner_51 rfl rfl ?_
        refine go_lload X d_Machine_runInner_52 rfl ?_
        refine go_iload X d_Machine_runInner_54 rfl ?_
        have hT : rin F op x s = F (x / 6 % 6) (stn s) := (if_neg (by omega)).trans ((if_pos (by omega)).trans (if_pos hq9))
        have hk1 : kc (stn s).2.2.1.1 (F (x / 6 % 6) (stn s)).2.2.2.1.1 = kc s.2.2.1.1 (rin F op x s).2.2.2.1.1 := (congrArg (fun q : Bool × rnT => kc s.2.2.1.1 q.2.2.2.1.1) hT).symm
        refine go_cV (st2 := []) (r := []) X k_Machine_90 (hF sh M5 sz (stn s) (x / 6 % 6) (by omega) hr hX2) rd6.2.2.1.1 rfl rfl (by omega) (Nat.le_of_ble_eq_true rfl) d_Machine_runInner_56 (by omega) (by omega) (fun v' shn Mn zn hpp => ?_)
        obtain ⟨e1, ez, es, eX, ef⟩ := hpp
        subst e1
        show Go g (0 + kc (stn s).2.2.1.1 (F (x / 6 % 6) (stn s)).2.2.2.1.1) (0 + 91 * kc (stn s).2.2.1.1 (F (x / 6 % 6) (stn s)).2.2.2.1.1) shn Mn zn 59 [(7, vl ((x / 6) % 6)), (5, vl (x % 6)), (0, vr (o + 225)), (1, vi op), (2, vl x), (4, vi lv)] [vi (s_b (F (x / 6 % 6) (stn s)).1)]
        refine go_iret X d_Machine_runInner_59 rfl ?_ (by omega) (by omega) ?_
        · exact s_b_nar _
        rw [hT]
        exact ⟨rfl, ez, es, eX, fun z hz => (ef z hz).trans (fr7 z (fun q => hz (Or.inl q)))⟩
  · skip
    refine go_aload_n X d_Machine_runInner_24 rfl rfl ?_
    refine go_lload X d_Machine_runInner_25 rfl ?_
    refine go_lload X d_Machine_runInner_27 rfl ?_
    refine go_iload X d_Machine_runInner_29 rfl ?_
    have hT : rin F op x s = whl F (x / 6 % 6) (x % 6) ((1000000 : Int) - 0).toNat s := if_pos (by omega)
    have hk1 : kc s.2.2.1.1 (whl F (x / 6 % 6) (x % 6) ((1000000 : Int) - 0).toNat s).2.2.2.1.1 = kc s.2.2.1.1 (rin F op x s).2.2.2.1.1 := (congrArg (fun q : Bool × rnT => kc s.2.2.1.1 q.2.2.2.1.1) hT).symm
    refine go_cV (st2 := []) (r := []) X k_Machine_120 (c_runWhile l D hd9 hF hg (a := x / 6 % 6) (b := x % 6) (by omega) (by omega) hr hX) hw1.2.2.1.1 rfl rfl (by omega) (Nat.le_of_ble_eq_true rfl) d_Machine_runInner_31 (by omega) (by omega) (fun v' shn Mn zn hpp => ?_)
    obtain ⟨e1, ez, es, eX, ef⟩ := hpp
    subst e1
    show Go g (0 + kc s.2.2.1.1 (whl F (x / 6 % 6) (x % 6) ((1000000 : Int) - 0).toNat s).2.2.2.1.1) (0 + 91 * kc s.2.2.1.1 (whl F (x / 6 % 6) (x % 6) ((1000000 : Int) - 0).toNat s).2.2.2.1.1) shn Mn zn 34 [(7, vl ((x / 6) % 6)), (5, vl (x % 6)), (0, vr (o + 225)), (1, vi op), (2, vl x), (4, vi lv)] [vi (s_b (whl F (x / 6 % 6) (x % 6) ((1000000 : Int) - 0).toNat s).1)]
    refine go_iret X d_Machine_runInner_34 rfl ?_ (by omega) (by omega) ?_
    · exact s_b_nar _
    rw [hT]
    exact ⟨rfl, ez, es, eX, ef⟩
set_option maxHeartbeats 4000000 in
set_option maxRecDepth 100000 in
theorem c_runFunction (l : Launch) (D : va_G) {sh : s_S} {M : s_M} {sz o hd ns : Int} {O Q Z : Int → Int} {s : rnT} {d : Nat} (hd9 : 9 ≤ d) {lv : Int} {F : rfT} (hF : RFc l D o hd ns O Q Z d (lv + 1) F) (hg : ∀ f s, rok s → grw s (F f s).2) (hok : opk O Q Z) (hhd : -1 ≤ hd ∧ hd < 8) (hlv : 1 ≤ lv ∧ lv ≤ 8) {f : Int} (hf : 0 ≤ f ∧ f < 6) (hr : rok s) (hX : mwx sh M sz o hd O Q Z ns s) : Sp l D y_Machine_runFunction prog_5_method_9_code 8 (some .boolean) (d + 3) (kc s.2.2.1.1 (rlp hd ns O Q F (Z f).toNat (f * 24) s).2.2.2.1.1) (91 * kc s.2.2.1.1 (rlp hd ns O Q F (Z f).toNat (f * 24) s).2.2.2.1.1) [vr (o + 225), vl f, vi lv] sh M sz (rpo o hd ns O Q Z sh M sz s (rlp hd ns O Q F (Z f).toNat (f * 24) s)) := by
  have rx0 := rnx.zero hX hr
  have hZ := hok.2.2.2 f hf.1 hf.2
  refine Sp.ofGo (own := "CiteForge$Machine") (nm := "runFunction") (by decide) rfl rfl (Nat.le_of_ble_eq_true rfl) (lv := [(0, vr (o + 225)), (1, vl f), (3, vi lv)]) rfl ?_
  intro g X
  refine go_iload_n X d_Machine_runFunction_0 rfl rfl ?_
  refine go_bipush (v := 8) X d_Machine_runFunction_1 (by decide) ?_
  refine go_icmp_le (tgt := 8) X d_Machine_runFunction_3 rfl (by omega) (by omega) (fun hq1 => ?_) (fun hq1 => ?_)
  · skip
    obtain ⟨T1, T2, T3, U1, U2, hw2⟩ := rx0.1
    have ho3 := hw2.2.2.2.2.2.2.2.2.2.2.2.2.2.2
    refine go_lload_n X d_Machine_runFunction_8 rfl rfl ?_
    refine go_l2i X d_Machine_runFunction_9 ?_
    refine go_bipush (v := 24) X d_Machine_runFunction_10 (by decide) ?_
    refine go_imul X d_Machine_runFunction_12 ?_
    refine go_istore (lv' := [(4, vi (f * 24)), (0, vr (o + 225)), (1, vl f), (3, vi lv)]) X d_Machine_runFunction_13 (by decide) rfl ?_
    refine go_iload X d_Machine_runFunction_15 rfl ?_
    refine go_aload_n X d_Machine_runFunction_17 rfl rfl ?_
    refine go_get (v := vr (o + 225 + 8)) X f_Machine_45 hw2.2.2.1.1 rfl d_Machine_runFunction_18 (s_varr (show M (o + 225) 8 = o + 225 + 8 from hw2.2.2.1.2.2.2.1.2.2.2.1) (by omega)) ?_
    refine go_lload_n X d_Machine_runFunction_21 rfl rfl ?_
    refine go_l2i X d_Machine_runFunction_22 ?_
    refine go_iald X hw2.2.2.1.2.1.2.2.1 (by omega) (by omega) d_Machine_runFunction_23 ?_
    refine go_top (v' := vi (Z f)) X (by rw [hw2.2.2.1.2.2.2.2.2.1.2.2.1]) ?_
    refine go_iadd X d_Machine_runFunction_24 ?_
    refine go_istore (lv' := [(5, vi ((f * 24) + (Z f))), (4, vi (f * 24)), (0, vr (o + 225)), (1, vl f), (3, vi lv)]) X d_Machine_runFunction_25 (by decide) rfl ?_
    refine go_iload X d_Machine_runFunction_27 rfl ?_
    refine go_istore (lv' := [(6, vi (f * 24)), (5, vi ((f * 24) + (Z f))), (4, vi (f * 24)), (0, vr (o + 225)), (1, vl f), (3, vi lv)]) X d_Machine_runFunction_29 (by decide) rfl ?_
    have lp : ∀ (fuel : Nat) (i : Int) (s1 : rnT) (shx : s_S) (Mx : s_M) (zx : Int), f * 24 ≤ i ∧ i ≤ f * 24 + Z f → rnx sh M sz o hd ns O Q Z s shx Mx zx s1 → rlp hd ns O Q F (f * 24 + Z f - i).toNat i s1 = rlp hd ns O Q F (Z f).toNat (f * 24) s → (f * 24 + Z f - i).toNat < fuel → Go g (kc s.2.2.1.1 s1.2.2.1.1) (91 * kc s.2.2.1.1 s1.2.2.1.1) shx Mx zx 31 [(0, vr (o + 225)), (3, vi lv), (5, vi (f * 24 + Z f)), (6, vi i)] [] := by
      intro fuel
      induction fuel with
      | zero => intro i s1 shx Mx zx hi hx1 hp hm; exact absurd hm (Nat.not_lt_zero _)
      | succ fuel ih =>
        intro i s1 shx Mx zx hi hx1 hp hm
        have hr1 := hx1.2.2.2.2.2
        have hg0 := rlp_g (hd := hd) (ns := ns) (O := O) (Q := Q) hg (f * 24 + Z f - i).toNat i s1 hr1
        rw [hp] at hg0
        have hkn := kc_le (a := s.2.2.1.1) hg0.1
        have hoi := hok.1 i
        have hqi := hok.2.1 i
        have hqn := hok.2.2.1 i
        have hdn := hr1.1
        have hnp := hr1.2
        refine go_iload X d_Machine_runFunction_31 rfl ?_
        refine go_iload X d_Machine_runFunction_33 rfl ?_
        refine go_icmp_ge (tgt := 165) X d_Machine_runFunction_35 rfl (by omega) (by omega) (fun hq4 => ?_) (fun hq4 => ?_)
        · skip
          refine go_iconst (v := 1) X d_Machine_runFunction_165 ?_
          refine go_iret X d_Machine_runFunction_166 rfl ?_ (by omega) (by omega) ?_
          · rfl
          have hT : rlp hd ns O Q F (Z f).toNat (f * 24) s = (true, s1) := by rw [show (f * 24 + Z f - i).toNat = 0 by omega] at hp; exact hp.symm
          rw [hT]
          exact ⟨rfl, hx1.2.1, hx1.2.2.1, hx1.1, hx1.2.2.2.1⟩
        · skip
          have hwst : rlp hd ns O Q F (f * 24 + Z f - i).toNat i s1 = if 400 ≤ s1.2.2.2.1 then (false, s1) else if (stp hd ns F (O i) (Q i) (dni s1)).1 = true then rlp hd ns O Q F (f * 24 + Z f - (i + 1)).toNat (i + 1) (stp hd ns F (O i) (Q i) (dni s1)).2 else (false, (stp hd ns F (O i) (Q i) (dni s1)).2) := by rw [show (f * 24 + Z f - i).toNat = (f * 24 + Z f - (i + 1)).toNat + 1 by omega]; exact rlp_s hd ns O Q F _ i s1
          obtain ⟨T1, T2, T3, U1, U2, hw5⟩ := hx1.1
          have ho6 := hw5.2.2.2.2.2.2.2.2.2.2.2.2.2.2
          refine go_aload_n X d_Machine_runFunction_38 rfl rfl ?_
          refine go_get (v := vi (s1.2.2.2.1)) X f_Machine_82 hw5.2.2.1.1 rfl d_Machine_runFunction_39 (congrArg (s_v .int) hw5.2.2.2.2.2.2.2.2.1.2) ?_
          refine go_sipush (v := 400) X d_Machine_runFunction_42 (by decide) ?_
          refine go_icmp_lt (tgt := 50) X d_Machine_runFunction_45 rfl (by omega) (by omega) (fun hq7 => ?_) (fun hq7 => ?_)
          · skip
            refine go_aload_n X d_Machine_runFunction_50 rfl rfl ?_
            refine go_dup X d_Machine_runFunction_51 rfl ?_
            refine go_get (v := vi (s1.2.2.2.1)) X f_Machine_82 hw5.2.2.1.1 rfl d_Machine_runFunction_52 (congrArg (s_v .int) hw5.2.2.2.2.2.2.2.2.1.2) ?_
            refine go_iconst (v := 1) X d_Machine_runFunction_55 ?_
            refine go_iadd X d_Machine_runFunction_56 ?_
            refine go_put (x := ((s1.2.2.2.1) + 1)) (v := vi ((s1.2.2.2.1) + 1)) X f_Machine_82 hw5.2.2.1.1 rfl d_Machine_runFunction_57 rfl rfl rfl ?_
            have rd9 : mwd shx (m_s Mx (o + 225) 16 ((s1.2.2.2.1) + 1)) zx o hd ((s1.2.2.2.1) + 1) O Q Z (s1.2.1.1) (s1.1.1) (s1.1.2.1) (s1.1.2.2) T1 T2 T3 U1 U2 (s1.2.2.2.2.1) (s1.2.2.2.2.2.1) (s1.2.2.2.2.2.2.1) (s1.2.2.2.2.2.2.2.1) (s1.2.2.2.2.2.2.2.2) ns (s1.2.1.2) (s1.2.2.1.1) (s1.2.2.1.2.1) (s1.2.2.1.2.2) := hw5.setD
            have fr10 : fr (fun z => z = o + 1 ∨ (o + 2 ≤ z ∧ z < o + 157) ∨ (o + 183 ≤ z ∧ z ≤ o + 246)) Mx (m_s Mx (o + 225) 16 ((s1.2.2.2.1) + 1)) := fun z hz => by
              have hz1 : ¬ (z = o + 1 ∨ (o + 2 ≤ z ∧ z < o + 157) ∨ (o + 183 ≤ z ∧ z ≤ o + 246)) := hz
              exact m_s_a (by omega)
            generalize m_s Mx (o + 225) 16 ((s1.2.2.2.1) + 1) = M8 at rd9 fr10 ⊢
            have hrd : rok (dni s1) := rok_dni hr1 (by omega)
            have rx12 : rnx sh M sz o hd ns O Q Z s shx M8 zx (dni s1) := hx1.flat ⟨T1, T2, T3, U1, U2, rd9⟩ rfl fr10 hrd
            have hgS := stp_g (hd := hd) (ns := ns) (op := O i) (x := Q i) hg s1 hr1 (by omega)
            have hgR := rlp_g1 (hd := hd) (ns := ns) (O := O) (Q := Q) hg (f * 24 + Z f - (i + 1)).toNat i s1 hr1 (by omega)
            rw [show (f * 24 + Z f - (i + 1)).toNat + 1 = (f * 24 + Z f - i).toNat by omega, hp] at hgR
            obtain ⟨T1, T2, T3, U1, U2, hw13⟩ := rx12.1
            have ho14 := hw13.2.2.2.2.2.2.2.2.2.2.2.2.2.2
            refine go_aload_n X d_Machine_runFunction_60 rfl rfl ?_
            refine go_get (v := vr (o + 225 + 6)) X f_Machine_38 hw13.2.2.1.1 rfl d_Machine_runFunction_61 (s_varr (show M8 (o + 225) 6 = o + 225 + 6 from hw13.2.2.1.2.2.2.1.2.1) (by omega)) ?_
            refine go_iload X d_Machine_runFunction_64 rfl ?_
            refine go_iald X hw13.2.2.1.2.1.1 (by omega) (by omega) d_Machine_runFunction_66 ?_
            refine go_top (v' := vi (O i)) X (by rw [hw13.2.2.1.2.2.2.2.2.1.1]) ?_
            refine go_istore (lv' := [(7, vi (O i)), (0, vr (o + 225)), (3, vi lv), (5, vi (f * 24 + Z f)), (6, vi i)]) X d_Machine_runFunction_67 (by decide) rfl ?_
            refine go_iload X d_Machine_runFunction_69 rfl ?_
            refine go_bipush (v := 13) X d_Machine_runFunction_71 (by decide) ?_
            refine go_icmp_ge (tgt := 92) X d_Machine_runFunction_73 rfl (by omega) (by omega) (fun hq15 => ?_) (fun hq15 => ?_)
            · skip
              refine go_iload X d_Machine_runFunction_92 rfl ?_
              refine go_bipush (v := 22) X d_Machine_runFunction_94 (by decide) ?_
              refine go_icmp_le (tgt := 115) X d_Machine_runFunction_96 rfl (by omega) (by omega) (fun hq16 => ?_) (fun hq16 => ?_)
              · skip
                refine go_iload X d_Machine_runFunction_115 rfl ?_
                refine go_bipush (v := 15) X d_Machine_runFunction_117 (by decide) ?_
                refine go_icmp_le (tgt := 138) X d_Machine_runFunction_119 rfl (by omega) (by omega) (fun hq17 => ?_) (fun hq17 => ?_)
                · skip
                  refine go_aload_n X d_Machine_runFunction_138 rfl rfl ?_
                  refine go_iload X d_Machine_runFunction_139 rfl ?_
                  refine go_aload_n X d_Machine_runFunction_141 rfl rfl ?_
                  refine go_get (v := vr (o + 225 + 7)) X f_Machine_41 hw13.2.2.1.1 rfl d_Machine_runFunction_142 (s_varr (show M8 (o + 225) 7 = o + 225 + 7 from hw13.2.2.1.2.2.2.1.2.2.1) (by omega)) ?_
                  refine go_iload X d_Machine_runFunction_145 rfl ?_
                  refine go_lald X hw13.2.2.1.2.1.2.1 (by omega) (by omega) d_Machine_runFunction_147 ?_
                  refine go_top (v' := vl (Q i)) X (by rw [hw13.2.2.1.2.2.2.2.2.1.2.1]) ?_
                  refine go_iload_n X d_Machine_runFunction_148 rfl rfl ?_
                  refine go_iconst (v := 1) X d_Machine_runFunction_149 ?_
                  refine go_iadd X d_Machine_runFunction_150 ?_
                  have hST : stp hd ns F (O i) (Q i) (dni s1) = rin F (O i) (Q i) (dni s1) := (if_neg (by omega)).trans ((if_neg (by omega)).trans (if_neg (by omega)))
                  rw [hST] at hgS hgR
                  have hg2 : grw (dni s1) ((rin F (O i) (Q i) (dni s1)).2) := rin_g hg (dni s1) hrd
                  have hg3 := hgR
                  have hA : kc s.2.2.1.1 s1.2.2.1.1 + kc (dni s1).2.2.1.1 ((rin F (O i) (Q i) (dni s1)).2).2.2.1.1 = kc s.2.2.1.1 ((rin F (O i) (Q i) (dni s1)).2).2.2.1.1 := kc_add rx12.2.2.2.2.1 hg2.1
                  have hB := kc_le (a := s.2.2.1.1) hg3.1
                  refine go_cV (st2 := []) (r := []) X k_Machine_114 (c_runInner l D hd9 hF hg (by omega) (by omega) hrd rx12.1) hw13.2.2.1.1 rfl rfl (by omega) (Nat.le_of_ble_eq_true rfl) d_Machine_runFunction_151 (by omega) (by omega) (fun v' sh18 M19 zs20 hpp => ?_)
                  obtain ⟨e1, ez, es, eX, ef⟩ := hpp
                  subst e1
                  have rx21 := rx12.step eX ez es ef hg2
                  refine go_kn (k' := kc s.2.2.1.1 ((rin F (O i) (Q i) (dni s1)).2).2.2.1.1) (n' := 91 * kc s.2.2.1.1 ((rin F (O i) (Q i) (dni s1)).2).2.2.1.1) (sz' := zs20) (by omega) (by omega) rfl ?_
                  clear ez es eX ef
                  show Go g (kc s.2.2.1.1 ((rin F (O i) (Q i) (dni s1)).2).2.2.1.1) (91 * kc s.2.2.1.1 ((rin F (O i) (Q i) (dni s1)).2).2.2.1.1) sh18 M19 zs20 154 [(7, vi (O i)), (0, vr (o + 225)), (3, vi lv), (5, vi (f * 24 + Z f)), (6, vi i)] [vi (s_b (rin F (O i) (Q i) (dni s1)).1)]
                  refine go_ifb_ne (tgt := 159) X d_Machine_runFunction_154 rfl (fun hq22 => ?_) (fun hq22 => ?_)
                  · skip
                    refine go_iinc (v := 1) (x := i) (lv' := [(6, vi (i + 1)), (7, vi (O i)), (0, vr (o + 225)), (3, vi lv), (5, vi (f * 24 + Z f))]) X d_Machine_runFunction_159 rfl (by decide) rfl ?_
                    refine go_goto (tgt := 31) X d_Machine_runFunction_162 rfl ?_
                    have hn9 : rlp hd ns O Q F (f * 24 + Z f - (i + 1)).toNat (i + 1) ((rin F (O i) (Q i) (dni s1)).2) = rlp hd ns O Q F (Z f).toNat (f * 24) s := by rw [hwst, if_neg (by omega), hST, if_pos hq22] at hp; exact hp
                    refine go_lv (lv' := [(0, vr (o + 225)), (3, vi lv), (5, vi (f * 24 + Z f)), (6, vi (i + 1))]) X [2, 3, 4, 0] rfl ?_
                    exact ih (i + 1) ((rin F (O i) (Q i) (dni s1)).2) sh18 M19 zs20 (by omega) rx21 hn9 (by omega)
                  · skip
                    refine go_iconst (v := 0) X d_Machine_runFunction_157 ?_
                    refine go_iret X d_Machine_runFunction_158 rfl ?_ (by omega) (by omega) ?_
                    · rfl
                    have hT : rlp hd ns O Q F (Z f).toNat (f * 24) s = (false, (rin F (O i) (Q i) (dni s1)).2) := by rw [hwst, if_neg (by omega), hST, if_neg (by rw [hq22]; decide)] at hp; exact hp.symm
                    rw [hT]
                    exact ⟨rfl, rx21.2.1, rx21.2.2.1, rx21.1, rx21.2.2.2.1⟩
                · skip
                  refine go_aload_n X d_Machine_runFunction_122 rfl rfl ?_
                  refine go_iload X d_Machine_runFunction_123 rfl ?_
                  refine go_aload_n X d_Machine_runFunction_125 rfl rfl ?_
                  refine go_get (v := vr (o + 225 + 7)) X f_Machine_41 hw13.2.2.1.1 rfl d_Machine_runFunction_126 (s_varr (show M8 (o + 225) 7 = o + 225 + 7 from hw13.2.2.1.2.2.2.1.2.2.1) (by omega)) ?_
                  refine go_iload X d_Machine_runFunction_129 rfl ?_
                  refine go_lald X hw13.2.2.1.2.1.2.1 (by omega) (by omega) d_Machine_runFunction_131 ?_
                  refine go_top (v' := vl (Q i)) X (by rw [hw13.2.2.1.2.2.2.2.2.1.2.1]) ?_
                  have hST : stp hd ns F (O i) (Q i) (dni s1) = (true, wkE hd (O i) (Q i) (dni s1)) := (if_neg (by omega)).trans ((if_neg (by omega)).trans (if_pos (by omega)))
                  rw [hST] at hgS hgR
                  have hnn : (dni s1).2.2.1.1 < 2147480000 := by show s1.2.2.1.1 < 2147480000; omega
                  have hg2 : grw (dni s1) (wkE hd (O i) (Q i) (dni s1)) := ⟨(wkE_np hd (O i) (Q i) (dni s1)).1, hgS.2⟩
                  have hg3 := (show grw (wkE hd (O i) (Q i) (dni s1)) (rlp hd ns O Q F (Z f).toNat (f * 24) s).2 from hgR)
                  have hA : kc s.2.2.1.1 s1.2.2.1.1 + kc (dni s1).2.2.1.1 (wkE hd (O i) (Q i) (dni s1)).2.2.1.1 = kc s.2.2.1.1 (wkE hd (O i) (Q i) (dni s1)).2.2.1.1 := kc_add rx12.2.2.2.2.1 hg2.1
                  have hB := kc_le (a := s.2.2.1.1) hg3.1
                  refine go_cV (st2 := []) (r := []) X k_Machine_111 (c_workOnEntry l D rx12.1 (by omega) (by omega) hhd hnn) hw13.2.2.1.1 rfl rfl (by omega) (Nat.le_of_ble_eq_true rfl) d_Machine_runFunction_132 (by omega) (by omega) (fun v' sh23 M24 zs25 hpp => ?_)
                  obtain ⟨e1, ez, es, eX, ef⟩ := hpp
                  subst e1
                  have rx26 := rx12.step eX ez es ef hg2
                  refine go_kn (k' := kc s.2.2.1.1 (wkE hd (O i) (Q i) (dni s1)).2.2.1.1) (n' := 91 * kc s.2.2.1.1 (wkE hd (O i) (Q i) (dni s1)).2.2.1.1) (sz' := zs25) (by omega) (by omega) rfl ?_
                  clear ez es eX ef
                  show Go g (kc s.2.2.1.1 (wkE hd (O i) (Q i) (dni s1)).2.2.1.1) (91 * kc s.2.2.1.1 (wkE hd (O i) (Q i) (dni s1)).2.2.1.1) sh23 M24 zs25 135 [(7, vi (O i)), (0, vr (o + 225)), (3, vi lv), (5, vi (f * 24 + Z f)), (6, vi i)] []
                  refine go_goto (tgt := 159) X d_Machine_runFunction_135 rfl ?_
                  refine go_iinc (v := 1) (x := i) (lv' := [(6, vi (i + 1)), (7, vi (O i)), (0, vr (o + 225)), (3, vi lv), (5, vi (f * 24 + Z f))]) X d_Machine_runFunction_159 rfl (by decide) rfl ?_
                  refine go_goto (tgt := 31) X d_Machine_runFunction_162 rfl ?_
                  have hn9 : rlp hd ns O Q F (f * 24 + Z f - (i + 1)).toNat (i + 1) (wkE hd (O i) (Q i) (dni s1)) = rlp hd ns O Q F (Z f).toNat (f * 24) s := by rw [hwst, if_neg (by omega), hST, if_pos rfl] at hp; exact hp
                  refine go_lv (lv' := [(0, vr (o + 225)), (3, vi lv), (5, vi (f * 24 + Z f)), (6, vi (i + 1))]) X [2, 3, 4, 0] rfl ?_
                  exact ih (i + 1) (wkE hd (O i) (Q i) (dni s1)) sh23 M24 zs25 (by omega) rx26 hn9 (by omega)
              · skip
                refine go_aload_n X d_Machine_runFunction_99 rfl rfl ?_
                refine go_iload X d_Machine_runFunction_100 rfl ?_
                refine go_aload_n X d_Machine_runFunction_102 rfl rfl ?_
                refine go_get (v := vr (o + 225 + 7)) X f_Machine_41 hw13.2.2.1.1 rfl d_Machine_runFunction_103 (s_varr (show M8 (o + 225) 7 = o + 225 + 7 from hw13.2.2.1.2.2.2.1.2.2.1) (by omega)) ?_
                refine go_iload X d_Machine_runFunction_106 rfl ?_
                refine go_lald X hw13.2.2.1.2.1.2.1 (by omega) (by omega) d_Machine_runFunction_108 ?_
                refine go_top (v' := vl (Q i)) X (by rw [hw13.2.2.1.2.2.2.2.2.1.2.1]) ?_
                have hST : stp hd ns F (O i) (Q i) (dni s1) = (true, wkT (O i) (Q i) (dni s1)) := (if_neg (by omega)).trans (if_pos (by omega))
                rw [hST] at hgS hgR
                refine go_cV (st2 := []) (r := []) X k_Machine_108 (c_workOnText l D rx12.1 (by omega) (by omega)) hw13.2.2.1.1 rfl rfl (by omega) (Nat.le_of_ble_eq_true rfl) d_Machine_runFunction_109 (by omega) (by omega) (fun v' sh' M27 sz' hpp => ?_)
                obtain ⟨e1, e2, e3, eX, ef⟩ := hpp
                subst e1
                rw [e2, e3]
                clear e2 e3
                have rx28 : rnx sh M sz o hd ns O Q Z s shx M27 zx (wkT (O i) (Q i) (dni s1)) := rx12.flat eX (congrArg (fun q => q.1) (wkT_pg (O i) (Q i) (dni s1)).1) ef hgS.2
                have hkq : kc s.2.2.1.1 s1.2.2.1.1 = kc s.2.2.1.1 (wkT (O i) (Q i) (dni s1)).2.2.1.1 := congrArg (kc s.2.2.1.1) (show s1.2.2.1.1 = (wkT (O i) (Q i) (dni s1)).2.2.1.1 from ((congrArg (fun q => q.1) (wkT_pg (O i) (Q i) (dni s1)).1)).symm)
                show Go g (kc s.2.2.1.1 s1.2.2.1.1) (91 * kc s.2.2.1.1 s1.2.2.1.1) shx M27 zx 112 [(7, vi (O i)), (0, vr (o + 225)), (3, vi lv), (5, vi (f * 24 + Z f)), (6, vi i)] []
                refine go_goto (tgt := 159) X d_Machine_runFunction_112 rfl ?_
                refine go_iinc (v := 1) (x := i) (lv' := [(6, vi (i + 1)), (7, vi (O i)), (0, vr (o + 225)), (3, vi lv), (5, vi (f * 24 + Z f))]) X d_Machine_runFunction_159 rfl (by decide) rfl ?_
                refine go_goto (tgt := 31) X d_Machine_runFunction_162 rfl ?_
                have hn9 : rlp hd ns O Q F (f * 24 + Z f - (i + 1)).toNat (i + 1) (wkT (O i) (Q i) (dni s1)) = rlp hd ns O Q F (Z f).toNat (f * 24) s := by rw [hwst, if_neg (by omega), hST, if_pos rfl] at hp; exact hp
                refine go_lv (lv' := [(0, vr (o + 225)), (3, vi lv), (5, vi (f * 24 + Z f)), (6, vi (i + 1))]) X [2, 3, 4, 0] rfl ?_
                have hkk : kc s.2.2.1.1 s1.2.2.1.1 = kc s.2.2.1.1 (wkT (O i) (Q i) (dni s1)).2.2.1.1 := hkq
                refine go_kn (k' := kc s.2.2.1.1 (wkT (O i) (Q i) (dni s1)).2.2.1.1) (n' := 91 * kc s.2.2.1.1 (wkT (O i) (Q i) (dni s1)).2.2.1.1) (sz' := zx) (by omega) (by omega) rfl ?_
                exact ih (i + 1) (wkT (O i) (Q i) (dni s1)) shx M27 zx (by omega) rx28 hn9 (by omega)
            · skip
              refine go_aload_n X d_Machine_runFunction_76 rfl rfl ?_
              refine go_iload X d_Machine_runFunction_77 rfl ?_
              refine go_aload_n X d_Machine_runFunction_79 rfl rfl ?_
              refine go_get (v := vr (o + 225 + 7)) X f_Machine_41 hw13.2.2.1.1 rfl d_Machine_runFunction_80 (s_varr (show M8 (o + 225) 7 = o + 225 + 7 from hw13.2.2.1.2.2.2.1.2.2.1) (by omega)) ?_
              refine go_iload X d_Machine_runFunction_83 rfl ?_
              refine go_lald X hw13.2.2.1.2.1.2.1 (by omega) (by omega) d_Machine_runFunction_85 ?_
              refine go_top (v' := vl (Q i)) X (by rw [hw13.2.2.1.2.2.2.2.2.1.2.1]) ?_
              have hST : stp hd ns F (O i) (Q i) (dni s1) = (true, wkS hd ns (O i) (Q i) (dni s1)) := if_pos (by omega)
              rw [hST] at hgS hgR
              refine go_cV (st2 := []) (r := []) X k_Machine_104 (c_workOnStack l D rx12.1 (by omega) hqi hhd) hw13.2.2.1.1 rfl rfl (by omega) (Nat.le_of_ble_eq_true rfl) d_Machine_runFunction_86 (by omega) (by omega) (fun v' sh' M29 sz' hpp => ?_)
              obtain ⟨e1, e2, e3, eX, ef⟩ := hpp
              subst e1
              rw [e2, e3]
              clear e2 e3
              have rx30 : rnx sh M sz o hd ns O Q Z s shx M29 zx (wkS hd ns (O i) (Q i) (dni s1)) := rx12.flat eX (rfl : (wkS hd ns (O i) (Q i) (dni s1)).2.2.1.1 = (dni s1).2.2.1.1) ef hgS.2
              have hkq : kc s.2.2.1.1 s1.2.2.1.1 = kc s.2.2.1.1 (wkS hd ns (O i) (Q i) (dni s1)).2.2.1.1 := congrArg (kc s.2.2.1.1) (show s1.2.2.1.1 = (wkS hd ns (O i) (Q i) (dni s1)).2.2.1.1 from ((rfl : (wkS hd ns (O i) (Q i) (dni s1)).2.2.1.1 = (dni s1).2.2.1.1)).symm)
              show Go g (kc s.2.2.1.1 s1.2.2.1.1) (91 * kc s.2.2.1.1 s1.2.2.1.1) shx M29 zx 89 [(7, vi (O i)), (0, vr (o + 225)), (3, vi lv), (5, vi (f * 24 + Z f)), (6, vi i)] []
              refine go_goto (tgt := 159) X d_Machine_runFunction_89 rfl ?_
              refine go_iinc (v := 1) (x := i) (lv' := [(6, vi (i + 1)), (7, vi (O i)), (0, vr (o + 225)), (3, vi lv), (5, vi (f * 24 + Z f))]) X d_Machine_runFunction_159 rfl (by decide) rfl ?_
              refine go_goto (tgt := 31) X d_Machine_runFunction_162 rfl ?_
              have hn9 : rlp hd ns O Q F (f * 24 + Z f - (i + 1)).toNat (i + 1) (wkS hd ns (O i) (Q i) (dni s1)) = rlp hd ns O Q F (Z f).toNat (f * 24) s := by rw [hwst, if_neg (by omega), hST, if_pos rfl] at hp; exact hp
              refine go_lv (lv' := [(0, vr (o + 225)), (3, vi lv), (5, vi (f * 24 + Z f)), (6, vi (i + 1))]) X [2, 3, 4, 0] rfl ?_
              have hkk : kc s.2.2.1.1 s1.2.2.1.1 = kc s.2.2.1.1 (wkS hd ns (O i) (Q i) (dni s1)).2.2.1.1 := hkq
              refine go_kn (k' := kc s.2.2.1.1 (wkS hd ns (O i) (Q i) (dni s1)).2.2.1.1) (n' := 91 * kc s.2.2.1.1 (wkS hd ns (O i) (Q i) (dni s1)).2.2.1.1) (sz' := zx) (by omega) (by omega) rfl ?_
              exact ih (i + 1) (wkS hd ns (O i) (Q i) (dni s1)) shx M29 zx (by omega) rx30 hn9 (by omega)
          · skip
            refine go_iconst (v := 0) X d_Machine_runFunction_48 ?_
            refine go_iret X d_Machine_runFunction_49 rfl ?_ (by omega) (by omega) ?_
            · rfl
            have hT : rlp hd ns O Q F (Z f).toNat (f * 24) s = (false, s1) := by rw [hwst, if_pos (by omega)] at hp; exact hp.symm
            rw [hT]
            exact ⟨rfl, hx1.2.1, hx1.2.2.1, hx1.1, hx1.2.2.2.1⟩
    have hk0 := kc_self s.2.2.1.1
    refine go_kn (k' := kc s.2.2.1.1 s.2.2.1.1) (n' := 91 * kc s.2.2.1.1 s.2.2.1.1) (sz' := sz) (by omega) (by omega) rfl ?_
    refine go_lv (lv' := [(0, vr (o + 225)), (3, vi lv), (5, vi ((f * 24) + (Z f))), (6, vi (f * 24))]) X [3, 5, 1, 0] rfl ?_
    exact lp _ (f * 24) s sh M sz (by omega) rx0 (by rw [show f * 24 + Z f - f * 24 = Z f by omega]) (Nat.lt_succ_self _)
  · skip
    refine go_iconst (v := 0) X d_Machine_runFunction_6 ?_
    refine go_iret X d_Machine_runFunction_7 rfl ?_ (by omega) (by omega) ?_
    · rfl
    exfalso
    omega
