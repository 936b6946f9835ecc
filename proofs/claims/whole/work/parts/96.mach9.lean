set_option maxHeartbeats 4000000 in
set_option maxRecDepth 100000 in
theorem c_runFunction9 (l : Launch) (D : va_G) {sh : s_S} {M : s_M} {sz o hd ns : Int} {O Q Z : Int → Int} {s : rnT} {f : Int} (hr : rok s) (hX : mwx sh M sz o hd O Q Z ns s) : Sp l D y_Machine_runFunction prog_5_method_9_code 8 (some .boolean) 9 (kc s.2.2.1.1 s.2.2.1.1) (91 * kc s.2.2.1.1 s.2.2.1.1) [vr (o + 225), vl f, vi 9] sh M sz (rpo o hd ns O Q Z sh M sz s (false, s)) := by
  refine Sp.ofGo (own := "CiteForge$Machine") (nm := "runFunction") (by decide) rfl rfl (Nat.le_of_ble_eq_true rfl) (lv := [(0, vr (o + 225)), (1, vl f), (3, vi 9)]) rfl ?_
  intro g X
  refine go_iload_n X d_Machine_runFunction_0 rfl rfl ?_
  refine go_bipush (v := 8) X d_Machine_runFunction_1 (by decide) ?_
  refine go_icmp_le (tgt := 8) X d_Machine_runFunction_3 rfl (by omega) (by omega) (fun h9 => absurd h9 (by decide)) (fun _ => ?_)
  refine go_iconst (v := 0) X d_Machine_runFunction_6 ?_
  refine go_iret X d_Machine_runFunction_7 rfl ?_ (by omega) (by omega) ?_
  · rfl
  exact ⟨rfl, by show sz = sz + ((kc s.2.2.1.1 s.2.2.1.1 : Nat) : Int); rw [kc_self]; omega, fun _ _ => rfl, hX, fun _ _ => rfl⟩
theorem rf_c (l : Launch) (D : va_G) {o hd ns : Int} {O Q Z : Int → Int} (hok : opk O Q Z) (hhd : -1 ≤ hd ∧ hd < 8) : ∀ (d : Nat) (lv : Int), lv + d = 9 → 1 ≤ lv → RFc l D o hd ns O Q Z (9 + 3 * d) lv (rf hd ns O Q Z d)
  | 0, lv, h1, h2 => by
    have e : lv = 9 := by omega
    subst e
    intro sh M sz s f hf hr hX
    exact c_runFunction9 l D hr hX
  | d + 1, lv, h1, h2 => by
    intro sh M sz s f hf hr hX
    exact c_runFunction l D (d := 9 + 3 * d) (by omega) (rf_c l D hok hhd d (lv + 1) (by omega) (by omega)) (fun f s h => rf_g d f s h) hok hhd (by omega) hf hr hX
def zdn (s : rnT) : rnT := (s.1, s.2.1, s.2.2.1, 0, s.2.2.2.2)
/-- a run over the list: the entries at hand by H -/
def slp (ns : Int) (O Q Z : Int → Int) (f : Int) (H : Int → Int) : Nat → Int → rnT → Bool × rnT
  | 0, _, s => (true, s)
  | m + 1, i, s => if (rf (H i) ns O Q Z 8 f s).1 = true then slp ns O Q Z f H m (i + 1) (rf (H i) ns O Q Z 8 f s).2 else (false, (rf (H i) ns O Q Z 8 f s).2)
def hnd (L : Int → Int) (y m i : Int) : Int := L (if y = 1 then i else m - 1 - i)
def srn (ns : Int) (O Q Z L : Int → Int) (m f y : Int) (s : rnT) : Bool × rnT := if y = 0 then rf (-1) ns O Q Z 8 f (zdn s) else slp ns O Q Z f (hnd L y m) (m - 0).toNat 0 (zdn s)
theorem slp_s (ns : Int) (O Q Z : Int → Int) (f : Int) (H : Int → Int) (m : Nat) (i : Int) (s : rnT) : slp ns O Q Z f H (m + 1) i s = if (rf (H i) ns O Q Z 8 f s).1 = true then slp ns O Q Z f H m (i + 1) (rf (H i) ns O Q Z 8 f s).2 else (false, (rf (H i) ns O Q Z 8 f s).2) := rfl
theorem slp_g {ns : Int} {O Q Z : Int → Int} {f : Int} {H : Int → Int} : ∀ (m : Nat) (i : Int) (s : rnT), rok s → grw s (slp ns O Q Z f H m i s).2
  | 0, i, s, h => grw.refl h
  | m + 1, i, s, h => by
    have h1 := rf_g (hd := H i) (ns := ns) (O := O) (Q := Q) (Z := Z) 8 f s h
    rw [slp_s]
    split
    · exact h1.trans (slp_g m (i + 1) _ h1.2)
    · exact h1
theorem slp_g1 {ns : Int} {O Q Z : Int → Int} {f : Int} {H : Int → Int} (m : Nat) (i : Int) (s : rnT) (h : rok s) : grw (rf (H i) ns O Q Z 8 f s).2 (slp ns O Q Z f H (m + 1) i s).2 := by
  have h1 := rf_g (hd := H i) (ns := ns) (O := O) (Q := Q) (Z := Z) 8 f s h
  rw [slp_s]
  split
  · exact slp_g m (i + 1) _ h1.2
  · exact grw.refl h1.2
theorem rnx.hand {sh0 : s_S} {M0 : s_M} {sz0 o hd hd' ns : Int} {O Q Z : Int → Int} {s0 : rnT} {sh : s_S} {M M' : s_M} {sz : Int} {s : rnT} (h : rnx sh0 M0 sz0 o hd ns O Q Z s0 sh M sz s) (hX : mwx sh M' sz o hd' O Q Z ns s) (hf : fr (fun z => z = o + 1 ∨ (o + 2 ≤ z ∧ z < o + 157) ∨ (o + 183 ≤ z ∧ z ≤ o + 246)) M M') : rnx sh0 M0 sz0 o hd' ns O Q Z s0 sh M' sz s :=
  ⟨hX, h.2.1, h.2.2.1, fun z hz => (hf z (fun q => hz (Or.inl q))).trans (h.2.2.2.1 z hz), h.2.2.2.2⟩
set_option maxHeartbeats 4000000 in
set_option maxRecDepth 100000 in
theorem c_Machine_start (l : Launch) (D : va_G) {sh : s_S} {M : s_M} {sz o hd ns : Int} {O Q Z : Int → Int} {s : rnT} (hok : opk O Q Z) {f y nc m : Int} {WC L : Int → Int} (hf : 0 ≤ f ∧ f < 6) (hy : 0 ≤ y ∧ y ≤ 2) (hci : civ sh M (o + 180) (o + 2) (o + 1) nc m WC L) (hr : rok (zdn s)) (hX : mwx sh M sz o hd O Q Z ns s) : Sp l D y_Machine_start prog_5_method_8_code 5 (some .boolean) 34 (kc s.2.2.1.1 (srn ns O Q Z L m f y s).2.2.2.1.1) (91 * kc s.2.2.1.1 (srn ns O Q Z L m f y s).2.2.2.1.1) [vr (o + 225), vi f, vi y] sh M sz (fun v' sh' M' sz' => v' = some (vi (s_b (srn ns O Q Z L m f y s).1)) ∧ sz' = sz + ((kc s.2.2.1.1 (srn ns O Q Z L m f y s).2.2.2.1.1 : Nat) : Int) ∧ (∀ z, z < sz → sh' z = sh z) ∧ (∃ hd', (-1 ≤ hd' ∧ hd' < 8) ∧ mwx sh' M' sz' o hd' O Q Z ns (srn ns O Q Z L m f y s).2) ∧ fr (fun z => (z = o + 1 ∨ (o + 2 ≤ z ∧ z < o + 157) ∨ (o + 183 ≤ z ∧ z ≤ o + 246)) ∨ sz ≤ z) M M') := by
  refine Sp.ofGo (own := "CiteForge$Machine") (nm := "start") (by decide) rfl rfl (Nat.le_of_ble_eq_true rfl) (lv := [(0, vr (o + 225)), (1, vi f), (2, vi y)]) rfl ?_
  intro g X
  obtain ⟨T1, T2, T3, U1, U2, hw⟩ := hX
  have ho := hw.2.2.2.2.2.2.2.2.2.2.2.2.2.2
  refine go_aload_n X d_Machine_start_0 rfl rfl ?_
  refine go_iconst (v := 0) X d_Machine_start_1 ?_
  refine go_put (x := 0) (v := vi 0) X f_Machine_82 hw.2.2.1.1 rfl d_Machine_start_2 rfl rfl rfl ?_
  have rd2 : mwd sh (m_s M (o + 225) 16 0) sz o hd 0 O Q Z (s.2.1.1) (s.1.1) (s.1.2.1) (s.1.2.2) T1 T2 T3 U1 U2 (s.2.2.2.2.1) (s.2.2.2.2.2.1) (s.2.2.2.2.2.2.1) (s.2.2.2.2.2.2.2.1) (s.2.2.2.2.2.2.2.2) ns (s.2.1.2) (s.2.2.1.1) (s.2.2.1.2.1) (s.2.2.1.2.2) := hw.setD
  have fr3 : fr (fun z => z = o + 1 ∨ (o + 2 ≤ z ∧ z < o + 157) ∨ (o + 183 ≤ z ∧ z ≤ o + 246)) M (m_s M (o + 225) 16 0) := fun z hz => by
    have hz1 : ¬ (z = o + 1 ∨ (o + 2 ≤ z ∧ z < o + 157) ∨ (o + 183 ≤ z ∧ z ≤ o + 246)) := hz
    exact m_s_a (by omega)
  generalize m_s M (o + 225) 16 0 = M1 at rd2 fr3 ⊢
  refine go_aload_n X d_Machine_start_5 rfl rfl ?_
  refine go_null X d_Machine_start_6 ?_
  refine go_put (x := hqq o (-1)) (v := .null) X f_Machine_86 rd2.2.2.1.1 rfl d_Machine_start_7 (s_vnull (show hqq o (-1) < 0 from by unfold hqq; rw [if_neg (by decide)]; decide)) rfl rfl ?_
  have rd6 : mwd sh (m_s M1 (o + 225) 15 (hqq o (-1))) sz o (-1) 0 O Q Z (s.2.1.1) (s.1.1) (s.1.2.1) (s.1.2.2) T1 T2 T3 U1 U2 (s.2.2.2.2.1) (s.2.2.2.2.2.1) (s.2.2.2.2.2.2.1) (s.2.2.2.2.2.2.2.1) (s.2.2.2.2.2.2.2.2) ns (s.2.1.2) (s.2.2.1.1) (s.2.2.1.2.1) (s.2.2.1.2.2) := rd2.setH
  have fr7 : fr (fun z => z = o + 1 ∨ (o + 2 ≤ z ∧ z < o + 157) ∨ (o + 183 ≤ z ∧ z ≤ o + 246)) M1 (m_s M1 (o + 225) 15 (hqq o (-1))) := fun z hz => by
    have hz1 : ¬ (z = o + 1 ∨ (o + 2 ≤ z ∧ z < o + 157) ∨ (o + 183 ≤ z ∧ z ≤ o + 246)) := hz
    exact m_s_a (by omega)
  generalize m_s M1 (o + 225) 15 (hqq o (-1)) = M5 at rd6 fr7 ⊢
  have fr8 : fr (fun z => z = o + 1 ∨ (o + 2 ≤ z ∧ z < o + 157) ∨ (o + 183 ≤ z ∧ z ≤ o + 246)) M M5 := fun z hz => (fr7 z hz).trans (fr3 z hz)
  have hX0 : mwx sh M5 sz o (-1) O Q Z ns (zdn s) := ⟨T1, T2, T3, U1, U2, rd6⟩
  have rx0 : rnx sh M sz o (-1) ns O Q Z (zdn s) sh M5 sz (zdn s) := ⟨hX0, by rw [kc_self]; omega, fun _ _ => rfl, fun z hz => fr8 z (fun q => hz (Or.inl q)), grw.refl hr⟩
  obtain ⟨T1, T2, T3, U1, U2, hw9⟩ := rx0.1
  have ho10 := hw9.2.2.2.2.2.2.2.2.2.2.2.2.2.2
  refine go_iload_n X d_Machine_start_10 rfl rfl ?_
  refine go_if_ne (tgt := 22) X d_Machine_start_11 rfl (by omega) (fun hq11 => ?_) (fun hq11 => ?_)
  · skip
    refine go_aload_n X d_Machine_start_22 rfl rfl ?_
    refine go_get (v := vr (o + 180)) X f_Machine_15 hw9.2.2.1.1 rfl d_Machine_start_23 (s_vref (show M5 (o + 225) 1 = o + 180 from hw9.2.2.1.2.2.1.2.1) (by omega)) ?_
    have hc9 : civ sh M5 (o + 180) (o + 2) (o + 1) nc m WC L := hci.mv (fun z z1 z2 => ⟨rx0.2.2.1 z (by omega), rx0.2.2.2.1 z (by show ¬ ((z = o + 1 ∨ (o + 2 ≤ z ∧ z < o + 157) ∨ (o + 183 ≤ z ∧ z ≤ o + 246)) ∨ sz ≤ z); omega)⟩) (rx0.2.2.1 (o + 1) (by omega))
    have hm8 := hci.2.2.2.2.2.2.2.2.2.2.2.1
    refine go_cVf (st2 := [vi m]) (r := []) X k_Machine_94 (c_Citations_listSize l D hc9) hc9.1 rfl rfl (by omega) (Nat.le_of_ble_eq_true rfl) d_Machine_start_26 (by omega) (by omega) rfl ?_
    refine go_istore_n (lv' := [(3, vi m), (0, vr (o + 225)), (1, vi f), (2, vi y)]) X d_Machine_start_29 rfl (by decide) rfl ?_
    refine go_iconst (v := 0) X d_Machine_start_30 ?_
    refine go_istore (lv' := [(4, vi 0), (3, vi m), (0, vr (o + 225)), (1, vi f), (2, vi y)]) X d_Machine_start_31 (by decide) rfl ?_
    have hT0 : srn ns O Q Z L m f y s = slp ns O Q Z f (hnd L y m) (m - 0).toNat 0 (zdn s) := if_neg hq11
    have lp : ∀ (fuel : Nat) (i hx : Int) (s1 : rnT) (shx : s_S) (Mx : s_M) (zx : Int), 0 ≤ i ∧ i ≤ m → -1 ≤ hx ∧ hx < 8 → rnx sh M sz o hx ns O Q Z (zdn s) shx Mx zx s1 → slp ns O Q Z f (hnd L y m) (m - i).toNat i s1 = slp ns O Q Z f (hnd L y m) (m - 0).toNat 0 (zdn s) → (m - i).toNat < fuel → Go g (kc (zdn s).2.2.1.1 s1.2.2.1.1) (91 * kc (zdn s).2.2.1.1 s1.2.2.1.1) shx Mx zx 33 [(0, vr (o + 225)), (1, vi f), (2, vi y), (3, vi m), (4, vi i)] [] := by
      intro fuel
      induction fuel with
      | zero => intro i hx s1 shx Mx zx hi hhx hx1 hp hm; exact absurd hm (Nat.not_lt_zero _)
      | succ fuel ih =>
        intro i hx s1 shx Mx zx hi hhx hx1 hp hm
        have hr1 := hx1.2.2.2.2.2
        have hg0 := slp_g (ns := ns) (O := O) (Q := Q) (Z := Z) (f := f) (H := hnd L y m) (m - i).toNat i s1 hr1
        rw [hp, ← hT0] at hg0
        have hkn : kc (zdn s).2.2.1.1 s1.2.2.1.1 ≤ kc s.2.2.1.1 (srn ns O Q Z L m f y s).2.2.2.1.1 := kc_le (a := s.2.2.1.1) hg0.1
        refine go_iload X d_Machine_start_33 rfl ?_
        refine go_iload_n X d_Machine_start_35 rfl rfl ?_
        refine go_icmp_ge (tgt := 84) X d_Machine_start_36 rfl (by omega) (by omega) (fun hq12 => ?_) (fun hq12 => ?_)
        · skip
          refine go_iconst (v := 1) X d_Machine_start_84 ?_
          refine go_iret X d_Machine_start_85 rfl ?_ (by omega) (by omega) ?_
          · rfl
          have hT : srn ns O Q Z L m f y s = (true, s1) := by rw [hT0, ← hp, show (m - i).toNat = 0 by omega]; rfl
          rw [hT]
          exact ⟨rfl, hx1.2.1, hx1.2.2.1, ⟨hx, hhx, hx1.1⟩, hx1.2.2.2.1⟩
        · skip
          have hwst : slp ns O Q Z f (hnd L y m) (m - i).toNat i s1 = if (rf (hnd L y m i) ns O Q Z 8 f s1).1 = true then slp ns O Q Z f (hnd L y m) (m - (i + 1)).toNat (i + 1) (rf (hnd L y m i) ns O Q Z 8 f s1).2 else (false, (rf (hnd L y m i) ns O Q Z 8 f s1).2) := by rw [show (m - i).toNat = (m - (i + 1)).toNat + 1 by omega]; exact slp_s ns O Q Z f (hnd L y m) _ i s1
          have hgA := slp_g1 (ns := ns) (O := O) (Q := Q) (Z := Z) (f := f) (H := hnd L y m) (m - (i + 1)).toNat i s1 hr1
          rw [show (m - (i + 1)).toNat + 1 = (m - i).toNat by omega, hp, ← hT0] at hgA
          obtain ⟨T1, T2, T3, U1, U2, hw13⟩ := hx1.1
          have ho14 := hw13.2.2.2.2.2.2.2.2.2.2.2.2.2.2
          refine go_aload_n X d_Machine_start_39 rfl rfl ?_
          refine go_aload_n X d_Machine_start_40 rfl rfl ?_
          refine go_get (v := vr (o + 180)) X f_Machine_15 hw13.2.2.1.1 rfl d_Machine_start_41 (s_vref (show Mx (o + 225) 1 = o + 180 from hw13.2.2.1.2.2.1.2.1) (by omega)) ?_
          refine go_iload_n X d_Machine_start_44 rfl rfl ?_
          refine go_iconst (v := 1) X d_Machine_start_45 ?_
          refine go_icmp_ne (tgt := 54) X d_Machine_start_46 rfl (by omega) (by omega) (fun hq15 => ?_) (fun hq15 => ?_)
          · skip
            refine go_iload_n X d_Machine_start_54 rfl rfl ?_
            refine go_iconst (v := 1) X d_Machine_start_55 ?_
            refine go_isub X d_Machine_start_56 ?_
            refine go_iload X d_Machine_start_57 rfl ?_
            refine go_isub X d_Machine_start_59 ?_
            have hc9 : civ shx Mx (o + 180) (o + 2) (o + 1) nc m WC L := hci.mv (fun z z1 z2 => ⟨hx1.2.2.1 z (by omega), hx1.2.2.2.1 z (by show ¬ ((z = o + 1 ∨ (o + 2 ≤ z ∧ z < o + 157) ∨ (o + 183 ≤ z ∧ z ≤ o + 246)) ∨ sz ≤ z); omega)⟩) (hx1.2.2.1 (o + 1) (by omega))
            have hh9 : hnd L y m i = L (m - 1 - i) := congrArg L (if_neg (by omega))
            have hL9 := (hci.2.2.2.2.2.2.2.2.2.2.2.2.2.2.2.2.2.2 (m - 1 - i) (by omega) (by omega)).1
            have hLr : -1 ≤ hnd L y m i ∧ hnd L y m i < 8 := by omega
            refine go_cVf (st2 := (vr (o + 2 + 2 + 17 * L (m - 1 - i)) :: [vr (o + 225)])) (r := [vr (o + 225)]) X k_Machine_100 (c_Citations_listed l D hc9 (i := m - 1 - i) (by omega)) hc9.1 rfl rfl (by omega) (Nat.le_of_ble_eq_true rfl) d_Machine_start_60 (by omega) (by omega) rfl ?_
            refine go_top (v' := vr (o + 2 + 2 + 17 * hnd L y m i)) X (by rw [hh9]) ?_
            refine go_put (x := hqq o (hnd L y m i)) (v := vr (o + 2 + 2 + 17 * hnd L y m i)) X f_Machine_86 hw13.2.2.1.1 rfl d_Machine_start_63 (s_vref (show hqq o (hnd L y m i) = o + 2 + 2 + 17 * hnd L y m i from if_pos (by omega)) (by omega)) rfl rfl ?_
            have rd17 : mwd shx (m_s Mx (o + 225) 15 (hqq o (hnd L y m i))) zx o (hnd L y m i) (s1.2.2.2.1) O Q Z (s1.2.1.1) (s1.1.1) (s1.1.2.1) (s1.1.2.2) T1 T2 T3 U1 U2 (s1.2.2.2.2.1) (s1.2.2.2.2.2.1) (s1.2.2.2.2.2.2.1) (s1.2.2.2.2.2.2.2.1) (s1.2.2.2.2.2.2.2.2) ns (s1.2.1.2) (s1.2.2.1.1) (s1.2.2.1.2.1) (s1.2.2.1.2.2) := hw13.setH
            have fr18 : fr (fun z => z = o + 1 ∨ (o + 2 ≤ z ∧ z < o + 157) ∨ (o + 183 ≤ z ∧ z ≤ o + 246)) Mx (m_s Mx (o + 225) 15 (hqq o (hnd L y m i))) := fun z hz => by
              have hz1 : ¬ (z = o + 1 ∨ (o + 2 ≤ z ∧ z < o + 157) ∨ (o + 183 ≤ z ∧ z ≤ o + 246)) := hz
              exact m_s_a (by omega)
            generalize m_s Mx (o + 225) 15 (hqq o (hnd L y m i)) = M16 at rd17 fr18 ⊢
            have rx20 := hx1.hand (hd' := hnd L y m i) ⟨T1, T2, T3, U1, U2, rd17⟩ fr18
            obtain ⟨T1, T2, T3, U1, U2, hw21⟩ := rx20.1
            have ho22 := hw21.2.2.2.2.2.2.2.2.2.2.2.2.2.2
            refine go_aload_n X d_Machine_start_66 rfl rfl ?_
            refine go_iload_n X d_Machine_start_67 rfl rfl ?_
            refine go_i2l X d_Machine_start_68 (by omega) ?_
            refine go_iconst (v := 1) X d_Machine_start_69 ?_
            have hg2 := rf_g (hd := hnd L y m i) (ns := ns) (O := O) (Q := Q) (Z := Z) 8 f s1 hr1
            have hA : kc (zdn s).2.2.1.1 s1.2.2.1.1 + kc s1.2.2.1.1 (rf (hnd L y m i) ns O Q Z 8 f s1).2.2.2.1.1 = kc (zdn s).2.2.1.1 (rf (hnd L y m i) ns O Q Z 8 f s1).2.2.2.1.1 := kc_add rx20.2.2.2.2.1 hg2.1
            have hB : kc (zdn s).2.2.1.1 (rf (hnd L y m i) ns O Q Z 8 f s1).2.2.2.1.1 ≤ kc s.2.2.1.1 (srn ns O Q Z L m f y s).2.2.2.1.1 := kc_le (a := s.2.2.1.1) hgA.1
            refine go_cV (st2 := []) (r := []) X k_Machine_90 (rf_c l D hok hLr 8 1 (by omega) (by omega) shx M16 zx s1 f hf hr1 rx20.1) hw21.2.2.1.1 rfl rfl (by omega) (Nat.le_of_ble_eq_true rfl) d_Machine_start_70 (by omega) (by omega) (fun v' sh23 M24 zs25 hpp => ?_)
            obtain ⟨e1, ez, es, eX, ef⟩ := hpp
            subst e1
            have rx26 := rx20.step eX ez es ef hg2
            refine go_kn (k' := kc (zdn s).2.2.1.1 ((rf (hnd L y m i) ns O Q Z 8 f s1).2).2.2.1.1) (n' := 91 * kc (zdn s).2.2.1.1 ((rf (hnd L y m i) ns O Q Z 8 f s1).2).2.2.1.1) (sz' := zs25) (by omega) (by omega) rfl ?_
            clear ez es eX ef
            show Go g (kc (zdn s).2.2.1.1 ((rf (hnd L y m i) ns O Q Z 8 f s1).2).2.2.1.1) (91 * kc (zdn s).2.2.1.1 ((rf (hnd L y m i) ns O Q Z 8 f s1).2).2.2.1.1) sh23 M24 zs25 73 [(0, vr (o + 225)), (1, vi f), (2, vi y), (3, vi m), (4, vi i)] [vi (s_b (rf (hnd L y m i) ns O Q Z 8 f s1).1)]
            refine go_ifb_ne (tgt := 78) X d_Machine_start_73 rfl (fun hq27 => ?_) (fun hq27 => ?_)
            · skip
              have hok9 := hq27
              refine go_iinc (v := 1) (x := i) (lv' := [(4, vi (i + 1)), (0, vr (o + 225)), (1, vi f), (2, vi y), (3, vi m)]) X d_Machine_start_78 rfl (by decide) rfl ?_
              refine go_goto (tgt := 33) X d_Machine_start_81 rfl ?_
              have hn9 : slp ns O Q Z f (hnd L y m) (m - (i + 1)).toNat (i + 1) (rf (hnd L y m i) ns O Q Z 8 f s1).2 = slp ns O Q Z f (hnd L y m) (m - 0).toNat 0 (zdn s) := by rw [hwst, if_pos hok9] at hp; exact hp
              refine go_lv (lv' := [(0, vr (o + 225)), (1, vi f), (2, vi y), (3, vi m), (4, vi (i + 1))]) X [1, 2, 3, 4, 0] rfl ?_
              exact ih (i + 1) (hnd L y m i) (rf (hnd L y m i) ns O Q Z 8 f s1).2 sh23 M24 zs25 (by omega) hLr rx26 hn9 (by omega)
            · skip
              refine go_iconst (v := 0) X d_Machine_start_76 ?_
              refine go_iret X d_Machine_start_77 rfl ?_ (by omega) (by omega) ?_
              · rfl
              have hT : srn ns O Q Z L m f y s = (false, (rf (hnd L y m i) ns O Q Z 8 f s1).2) := by rw [hT0, ← hp, hwst, if_neg (by rw [hq27]; decide)]
              rw [hT]
              exact ⟨rfl, rx26.2.1, rx26.2.2.1, ⟨hnd L y m i, hLr, rx26.1⟩, rx26.2.2.2.1⟩
          · skip
            refine go_iload X d_Machine_start_49 rfl ?_
            refine go_goto (tgt := 60) X d_Machine_start_51 rfl ?_
            have hc9 : civ shx Mx (o + 180) (o + 2) (o + 1) nc m WC L := hci.mv (fun z z1 z2 => ⟨hx1.2.2.1 z (by omega), hx1.2.2.2.1 z (by show ¬ ((z = o + 1 ∨ (o + 2 ≤ z ∧ z < o + 157) ∨ (o + 183 ≤ z ∧ z ≤ o + 246)) ∨ sz ≤ z); omega)⟩) (hx1.2.2.1 (o + 1) (by omega))
            have hh9 : hnd L y m i = L (i) := congrArg L (if_pos (by omega))
            have hL9 := (hci.2.2.2.2.2.2.2.2.2.2.2.2.2.2.2.2.2.2 (i) (by omega) (by omega)).1
            have hLr : -1 ≤ hnd L y m i ∧ hnd L y m i < 8 := by omega
            refine go_cVf (st2 := (vr (o + 2 + 2 + 17 * L (i)) :: [vr (o + 225)])) (r := [vr (o + 225)]) X k_Machine_100 (c_Citations_listed l D hc9 (i := i) (by omega)) hc9.1 rfl rfl (by omega) (Nat.le_of_ble_eq_true rfl) d_Machine_start_60 (by omega) (by omega) rfl ?_
            refine go_top (v' := vr (o + 2 + 2 + 17 * hnd L y m i)) X (by rw [hh9]) ?_
            refine go_put (x := hqq o (hnd L y m i)) (v := vr (o + 2 + 2 + 17 * hnd L y m i)) X f_Machine_86 hw13.2.2.1.1 rfl d_Machine_start_63 (s_vref (show hqq o (hnd L y m i) = o + 2 + 2 + 17 * hnd L y m i from if_pos (by omega)) (by omega)) rfl rfl ?_
            have rd29 : mwd shx (m_s Mx (o + 225) 15 (hqq o (hnd L y m i))) zx o (hnd L y m i) (s1.2.2.2.1) O Q Z (s1.2.1.1) (s1.1.1) (s1.1.2.1) (s1.1.2.2) T1 T2 T3 U1 U2 (s1.2.2.2.2.1) (s1.2.2.2.2.2.1) (s1.2.2.2.2.2.2.1) (s1.2.2.2.2.2.2.2.1) (s1.2.2.2.2.2.2.2.2) ns (s1.2.1.2) (s1.2.2.1.1) (s1.2.2.1.2.1) (s1.2.2.1.2.2) := hw13.setH
            have fr30 : fr (fun z => z = o + 1 ∨ (o + 2 ≤ z ∧ z < o + 157) ∨ (o + 183 ≤ z ∧ z ≤ o + 246)) Mx (m_s Mx (o + 225) 15 (hqq o (hnd L y m i))) := fun z hz => by
              have hz1 : ¬ (z = o + 1 ∨ (o + 2 ≤ z ∧ z < o + 157) ∨ (o + 183 ≤ z ∧ z ≤ o + 246)) := hz
              exact m_s_a (by omega)
            generalize m_s Mx (o + 225) 15 (hqq o (hnd L y m i)) = M28 at rd29 fr30 ⊢
            have rx32 := hx1.hand (hd' := hnd L y m i) ⟨T1, T2, T3, U1, U2, rd29⟩ fr30
            obtain ⟨T1, T2, T3, U1, U2, hw33⟩ := rx32.1
            have ho34 := hw33.2.2.2.2.2.2.2.2.2.2.2.2.2.2
            refine go_aload_n X d_Machine_start_66 rfl rfl ?_
            refine go_iload_n X d_Machine_start_67 rfl rfl ?_
            refine go_i2l X d_Machine_start_68 (by omega) ?_
            refine go_iconst (v := 1) X d_Machine_start_69 ?_
            have hg2 := rf_g (hd := hnd L y m i) (ns := ns) (O := O) (Q := Q) (Z := Z) 8 f s1 hr1
            have hA : kc (zdn s).2.2.1.1 s1.2.2.1.1 + kc s1.2.2.1.1 (rf (hnd L y m i) ns O Q Z 8 f s1).2.2.2.1.1 = kc (zdn s).2.2.1.1 (rf (hnd L y m i) ns O Q Z 8 f s1).2.2.2.1.1 := kc_add rx32.2.2.2.2.1 hg2.1
            have hB : kc (zdn s).2.2.1.1 (rf (hnd L y m i) ns O Q Z 8 f s1).2.2.2.1.1 ≤ kc s.2.2.1.1 (srn ns O Q Z L m f y s).2.2.2.1.1 := kc_le (a := s.2.2.1.1) hgA.1
            refine go_cV (st2 := []) (r := []) X k_Machine_90 (rf_c l D hok hLr 8 1 (by omega) (by omega) shx M28 zx s1 f hf hr1 rx32.1) hw33.2.2.1.1 rfl rfl (by omega) (Nat.le_of_ble_eq_true rfl) d_Machine_start_70 (by omega) (by omega) (fun v' sh35 M36 zs37 hpp => ?_)
            obtain ⟨e1, ez, es, eX, ef⟩ := hpp
            subst e1
            have rx38 := rx32.step eX ez es ef hg2
            refine go_kn (k' := kc (zdn s).2.2.1.1 ((rf (hnd L y m i) ns O Q Z 8 f s1).2).2.2.1.1) (n' := 91 * kc (zdn s).2.2.1.1 ((rf (hnd L y m i) ns O Q Z 8 f s1).2).2.2.1.1) (sz' := zs37) (by omega) (by omega) rfl ?_
            clear ez es eX ef
            show Go g (kc (zdn s).2.2.1.1 ((rf (hnd L y m i) ns O Q Z 8 f s1).2).2.2.1.1) (91 * kc (zdn s).2.2.1.1 ((rf (hnd L y m i) ns O Q Z 8 f s1).2).2.2.1.1) sh35 M36 zs37 73 [(0, vr (o + 225)), (1, vi f), (2, vi y), (3, vi m), (4, vi i)] [vi (s_b (rf (hnd L y m i) ns O Q Z 8 f s1).1)]
            refine go_ifb_ne (tgt := 78) X d_Machine_start_73 rfl (fun hq39 => ?_) (fun hq39 => ?_)
            · skip
              have hok9 := hq39
              refine go_iinc (v := 1) (x := i) (lv' := [(4, vi (i + 1)), (0, vr (o + 225)), (1, vi f), (2, vi y), (3, vi m)]) X d_Machine_start_78 rfl (by decide) rfl ?_
              refine go_goto (tgt := 33) X d_Machine_start_81 rfl ?_
              have hn9 : slp ns O Q Z f (hnd L y m) (m - (i + 1)).toNat (i + 1) (rf (hnd L y m i) ns O Q Z 8 f s1).2 = slp ns O Q Z f (hnd L y m) (m - 0).toNat 0 (zdn s) := by rw [hwst, if_pos hok9] at hp; exact hp
              refine go_lv (lv' := [(0, vr (o + 225)), (1, vi f), (2, vi y), (3, vi m), (4, vi (i + 1))]) X [1, 2, 3, 4, 0] rfl ?_
              exact ih (i + 1) (hnd L y m i) (rf (hnd L y m i) ns O Q Z 8 f s1).2 sh35 M36 zs37 (by omega) hLr rx38 hn9 (by omega)
            · skip
              refine go_iconst (v := 0) X d_Machine_start_76 ?_
              refine go_iret X d_Machine_start_77 rfl ?_ (by omega) (by omega) ?_
              · rfl
              have hT : srn ns O Q Z L m f y s = (false, (rf (hnd L y m i) ns O Q Z 8 f s1).2) := by rw [hT0, ← hp, hwst, if_neg (by rw [hq39]; decide)]
              rw [hT]
              exact ⟨rfl, rx38.2.1, rx38.2.2.1, ⟨hnd L y m i, hLr, rx38.1⟩, rx38.2.2.2.1⟩
    have hk0 := kc_self (zdn s).2.2.1.1
    refine go_kn (k' := kc (zdn s).2.2.1.1 (zdn s).2.2.1.1) (n' := 91 * kc (zdn s).2.2.1.1 (zdn s).2.2.1.1) (sz' := sz) (by omega) (by omega) rfl ?_
    refine go_lv (lv' := [(0, vr (o + 225)), (1, vi f), (2, vi y), (3, vi m), (4, vi 0)]) X [2, 3, 4, 1, 0] rfl ?_
    exact lp _ 0 (-1) (zdn s) sh M5 sz (by omega) (by omega) rx0 rfl (Nat.lt_succ_self _)
  · skip
    refine go_aload_n X d_Machine_start_14 rfl rfl ?_
    refine go_iload_n X d_Machine_start_15 rfl rfl ?_
    refine go_i2l X d_Machine_start_16 (by omega) ?_
    refine go_iconst (v := 1) X d_Machine_start_17 ?_
    have hT : srn ns O Q Z L m f y s = rf (-1) ns O Q Z 8 f (zdn s) := if_pos hq11
    have hk1 : kc (zdn s).2.2.1.1 (rf (-1) ns O Q Z 8 f (zdn s)).2.2.2.1.1 = kc s.2.2.1.1 (srn ns O Q Z L m f y s).2.2.2.1.1 := (congrArg (fun q : Bool × rnT => kc s.2.2.1.1 q.2.2.2.1.1) hT).symm
    refine go_cV (st2 := []) (r := []) X k_Machine_90 (rf_c l D hok (by omega) 8 1 (by omega) (by omega) sh M5 sz (zdn s) f hf hr rx0.1) hw9.2.2.1.1 rfl rfl (by omega) (Nat.le_of_ble_eq_true rfl) d_Machine_start_18 (by omega) (by omega) (fun v' shn Mn zn hpp => ?_)
    obtain ⟨e1, ez, es, eX, ef⟩ := hpp
    subst e1
    show Go g (0 + kc (zdn s).2.2.1.1 (rf (-1) ns O Q Z 8 f (zdn s)).2.2.2.1.1) (0 + 91 * kc (zdn s).2.2.1.1 (rf (-1) ns O Q Z 8 f (zdn s)).2.2.2.1.1) shn Mn zn 21 [(0, vr (o + 225)), (1, vi f), (2, vi y)] [vi (s_b (rf (-1) ns O Q Z 8 f (zdn s)).1)]
    refine go_iret X d_Machine_start_21 rfl ?_ (by omega) (by omega) ?_
    · exact s_b_nar _
    rw [hT]
    exact ⟨rfl, ez, es, ⟨-1, by omega, eX⟩, fun z hz => (ef z hz).trans (rx0.2.2.2.1 z hz)⟩
