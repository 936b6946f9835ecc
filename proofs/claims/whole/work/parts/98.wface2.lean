set_option maxHeartbeats 4000000 in
set_option maxRecDepth 100000 in
theorem g_write (l : Launch) (hl : l.stackTraces = false) (D : va_G) {sh : s_S} {M : s_M} {sz o : Int} {s : rnT} {hd : Int} {ns : Int} {O : Int → Int} {Q : Int → Int} {Z : Int → Int} {nr : Int} {t : List Int} {WR : Int → Int} {YR : Int → List Int} {vR : List Int} {nc : Int} {m : Int} {WC : Int → Int} {L : Int → Int} (h : cwd sh M sz o s hd ns O Q Z nr t WR YR vR nc m WC L) {x n_ : Int} (hx : 0 ≤ x ∧ x < 18446744073709551616) (hn : -2147483648 ≤ n_ ∧ n_ < 2147483648) : SpX l D y_CiteForge_write prog_1_method_2_code 4 (some .int) 8 1 6 [vr o, vl x, vi n_] sh M sz (fun v' sh' M' sz' => (wrk t x n_) = 0 ∧ v' = some (vi ((t.length : Int) + n_)) ∧ sh' = sh ∧ sz' = sz ∧ cwd sh M' sz o s hd ns O Q Z nr (ads x n_ t) WR YR vR nc m WC L ∧ fr (fun z => o ≤ z ∧ z ≤ o + 246) M M') (fun E sh' M' sz' => sh' = sh ∧ M' = M ∧ sz' = sz + 1 ∧ ((E = "java/lang/IllegalArgumentException" ∧ (wrk t x n_) = 1) ∨ (E = "java/lang/IllegalStateException" ∧ (wrk t x n_) = 2))) := by
  have ho := h.sz
  obtain ⟨T1, T2, T3, U1, U2, hw⟩ := h.2.1
  refine SpX.ofGo hl (own := "CiteForge") (nm := "write") (by decide) rfl rfl (Nat.le_of_ble_eq_true rfl) (lv := [(0, vr o), (1, vl x), (3, vi n_)]) rfl ?_
  intro g X XX
  refine go_iload_n X d_CiteForge_write_0 rfl rfl ?_
  refine go_iconst (v := 1) X d_CiteForge_write_1 ?_
  refine go_icmp_lt (tgt := 19) X d_CiteForge_write_2 rfl (by omega) (by omega) (fun hq1 => ?_) (fun hq1 => ?_)
  · skip
    refine go_throw X XX x_K_IA d_CiteForge_write_19 d_CiteForge_write_22 d_CiteForge_write_23 d_CiteForge_write_26 (by omega) (by omega) (by omega) ?_
    exact ⟨rfl, rfl, rfl, Or.inl ⟨rfl, if_neg (by intro q; obtain ⟨g1, g2, g3⟩ := q; first | omega | (rw [g3] at hq1; exact absurd hq1 (by decide)))⟩⟩
  · skip
    refine go_iload_n X d_CiteForge_write_5 rfl rfl ?_
    refine go_bipush (v := 8) X d_CiteForge_write_6 (by decide) ?_
    refine go_icmp_gt (tgt := 19) X d_CiteForge_write_8 rfl (by omega) (by omega) (fun hq2 => ?_) (fun hq2 => ?_)
    · skip
      refine go_throw X XX x_K_IA d_CiteForge_write_19 d_CiteForge_write_22 d_CiteForge_write_23 d_CiteForge_write_26 (by omega) (by omega) (by omega) ?_
      exact ⟨rfl, rfl, rfl, Or.inl ⟨rfl, if_neg (by intro q; obtain ⟨g1, g2, g3⟩ := q; first | omega | (rw [g3] at hq2; exact absurd hq2 (by decide)))⟩⟩
    · skip
      refine go_lload_n X d_CiteForge_write_11 rfl rfl ?_
      refine go_iload_n X d_CiteForge_write_12 rfl rfl ?_
      refine go_cSf (st2 := [vi (s_b (ala x n_))]) (r := []) X k_CiteForge_61 (c_Reader_allCharacters l D (by omega) (by omega)) rfl rfl (by omega) (Nat.le_of_ble_eq_true rfl) d_CiteForge_write_13 (by omega) (by omega) rfl ?_
      refine go_ifb_ne (tgt := 27) X d_CiteForge_write_16 rfl (fun hq3 => ?_) (fun hq3 => ?_)
      · skip
        refine go_aload_n X d_CiteForge_write_27 rfl rfl ?_
        refine go_get (v := vr (o + 157)) X f_CiteForge_27 h.1.1 rfl d_CiteForge_write_28 (s_vref h.1.2.2.2.1 (by omega)) ?_
        refine go_iload_n X d_CiteForge_write_31 rfl rfl ?_
        refine go_cVf (st2 := [vi (s_b (decide ((t.length : Int) + n_ ≤ 320)))]) (r := []) X k_CiteForge_68 (c_Reader_hasRoom l D h.2.2.1 (by omega)) h.2.2.1.1 rfl rfl (by omega) (Nat.le_of_ble_eq_true rfl) d_CiteForge_write_32 (by omega) (by omega) rfl ?_
        refine go_ifb_ne (tgt := 46) X d_CiteForge_write_35 rfl (fun hq4 => ?_) (fun hq4 => ?_)
        · skip
          refine go_aload_n X d_CiteForge_write_46 rfl rfl ?_
          refine go_get (v := vr (o + 157)) X f_CiteForge_27 h.1.1 rfl d_CiteForge_write_47 (s_vref h.1.2.2.2.1 (by omega)) ?_
          refine go_lload_n X d_CiteForge_write_50 rfl rfl ?_
          refine go_iload_n X d_CiteForge_write_51 rfl rfl ?_
          refine go_cV (st2 := []) (r := []) X k_CiteForge_75 (y_addCharacters l D h hx (by omega)) h.2.2.1.1 rfl rfl (by omega) (Nat.le_of_ble_eq_true rfl) d_CiteForge_write_52 (by omega) (by omega) (fun v' sh' M5 sz' hpp => ?_)
          obtain ⟨e1, e2, e3, wd6, fr7⟩ := hpp
          subst e1
          rw [e2, e3]
          clear e2 e3
          show Go g 0 0 sh M5 sz 55 [(0, vr o), (1, vl x), (3, vi n_)] [vi ((ads x n_ t).length : Int)]
          refine go_iret X d_CiteForge_write_55 rfl ?_ (by omega) (by omega) ?_
          · rfl
          have g1 : (t.length : Int) + n_ ≤ 320 := by simpa using hq4
          have g2 : ((ads x n_ t).length : Int) = t.length + n_ := ads_len (by omega) g1
          rw [g2]
          exact ⟨(if_pos ⟨by omega, by omega, hq3⟩).trans (if_pos g1), rfl, rfl, rfl, wd6, fr7⟩
        · skip
          refine go_throw X XX x_K_IS d_CiteForge_write_38 d_CiteForge_write_41 d_CiteForge_write_42 d_CiteForge_write_45 (by omega) (by omega) (by omega) ?_
          exact ⟨rfl, rfl, rfl, Or.inr ⟨rfl, (if_pos ⟨by omega, by omega, hq3⟩).trans (if_neg (by simpa using hq4))⟩⟩
      · skip
        refine go_throw X XX x_K_IA d_CiteForge_write_19 d_CiteForge_write_22 d_CiteForge_write_23 d_CiteForge_write_26 (by omega) (by omega) (by omega) ?_
        exact ⟨rfl, rfl, rfl, Or.inl ⟨rfl, if_neg (by intro q; obtain ⟨g1, g2, g3⟩ := q; first | omega | (rw [g3] at hq3; exact absurd hq3 (by decide)))⟩⟩
set_option maxHeartbeats 4000000 in
set_option maxRecDepth 100000 in
theorem g_erase (l : Launch) (D : va_G) {sh : s_S} {M : s_M} {sz o : Int} {s : rnT} {hd : Int} {ns : Int} {O : Int → Int} {Q : Int → Int} {Z : Int → Int} {nr : Int} {t : List Int} {WR : Int → Int} {YR : Int → List Int} {vR : List Int} {nc : Int} {m : Int} {WC : Int → Int} {L : Int → Int} (h : cwd sh M sz o s hd ns O Q Z nr t WR YR vR nc m WC L) : Sp l D y_CiteForge_erase prog_1_method_3_code 1 (some .int) 4 0 0 [vr o] sh M sz (fun v' sh' M' sz' => ((0 : Int)) = 0 ∧ v' = some (vi ((t.length : Int))) ∧ sh' = sh ∧ sz' = sz ∧ cwd sh M' sz o s hd ns O Q Z nr ([]) WR YR vR nc m WC L ∧ fr (fun z => o ≤ z ∧ z ≤ o + 246) M M') := by
  have ho := h.sz
  obtain ⟨T1, T2, T3, U1, U2, hw⟩ := h.2.1
  refine Sp.ofGo (own := "CiteForge") (nm := "erase") (by decide) rfl rfl (Nat.le_of_ble_eq_true rfl) (lv := [(0, vr o)]) rfl ?_
  intro g X
  refine go_aload_n X d_CiteForge_erase_0 rfl rfl ?_
  refine go_get (v := vr (o + 157)) X f_CiteForge_27 h.1.1 rfl d_CiteForge_erase_1 (s_vref h.1.2.2.2.1 (by omega)) ?_
  refine go_cV (st2 := []) (r := []) X k_CiteForge_79 (y_dropSource l D h ) h.2.2.1.1 rfl rfl (by omega) (Nat.le_of_ble_eq_true rfl) d_CiteForge_erase_4 (by omega) (by omega) (fun v' sh' M1 sz' hpp => ?_)
  obtain ⟨e1, e2, e3, wd2, fr3⟩ := hpp
  subst e1
  rw [e2, e3]
  clear e2 e3
  show Go g 0 0 sh M1 sz 7 [(0, vr o)] [vi (t.length : Int)]
  refine go_iret X d_CiteForge_erase_7 rfl ?_ (by omega) (by omega) ?_
  · rfl
  exact ⟨rfl, rfl, rfl, rfl, wd2, fr3⟩
set_option maxHeartbeats 4000000 in
set_option maxRecDepth 100000 in
theorem g_forget (l : Launch) (D : va_G) {sh : s_S} {M : s_M} {sz o : Int} {s : rnT} {hd : Int} {ns : Int} {O : Int → Int} {Q : Int → Int} {Z : Int → Int} {nr : Int} {t : List Int} {WR : Int → Int} {YR : Int → List Int} {vR : List Int} {nc : Int} {m : Int} {WC : Int → Int} {L : Int → Int} (h : cwd sh M sz o s hd ns O Q Z nr t WR YR vR nc m WC L) : Sp l D y_CiteForge_forget prog_1_method_6_code 1 (some .int) 4 0 0 [vr o] sh M sz (fun v' sh' M' sz' => ((0 : Int)) = 0 ∧ v' = some (vi (nc)) ∧ sh' = sh ∧ sz' = sz ∧ cwd sh M' sz o s hd ns O Q Z nr t WR YR vR 0 m WC L ∧ fr (fun z => o ≤ z ∧ z ≤ o + 246) M M') := by
  have ho := h.sz
  obtain ⟨T1, T2, T3, U1, U2, hw⟩ := h.2.1
  refine Sp.ofGo (own := "CiteForge") (nm := "forget") (by decide) rfl rfl (Nat.le_of_ble_eq_true rfl) (lv := [(0, vr o)]) rfl ?_
  intro g X
  refine go_aload_n X d_CiteForge_forget_0 rfl rfl ?_
  refine go_get (v := vr (o + 180)) X f_CiteForge_34 h.1.1 rfl d_CiteForge_forget_1 (s_vref h.1.2.2.2.2.1 (by omega)) ?_
  refine go_cV (st2 := []) (r := []) X k_CiteForge_117 (y_dropCitations l D h ) h.2.2.2.1.1 rfl rfl (by omega) (Nat.le_of_ble_eq_true rfl) d_CiteForge_forget_4 (by omega) (by omega) (fun v' sh' M1 sz' hpp => ?_)
  obtain ⟨e1, e2, e3, wd2, fr3⟩ := hpp
  subst e1
  rw [e2, e3]
  clear e2 e3
  show Go g 0 0 sh M1 sz 7 [(0, vr o)] [vi nc]
  refine go_iret X d_CiteForge_forget_7 rfl ?_ (by omega) (by omega) ?_
  · rfl
  exact ⟨rfl, rfl, rfl, rfl, wd2, fr3⟩
set_option maxHeartbeats 4000000 in
set_option maxRecDepth 100000 in
theorem g_depth (l : Launch) (D : va_G) {sh : s_S} {M : s_M} {sz o : Int} {s : rnT} {hd : Int} {ns : Int} {O : Int → Int} {Q : Int → Int} {Z : Int → Int} {nr : Int} {t : List Int} {WR : Int → Int} {YR : Int → List Int} {vR : List Int} {nc : Int} {m : Int} {WC : Int → Int} {L : Int → Int} (h : cwd sh M sz o s hd ns O Q Z nr t WR YR vR nc m WC L) : Sp l D y_CiteForge_depth prog_1_method_14_code 1 (some .int) 4 0 0 [vr o] sh M sz (fun v' sh' M' sz' => ((0 : Int)) = 0 ∧ v' = some (vi (s.1.2.1)) ∧ sh' = sh ∧ sz' = sz ∧ cwd sh M' sz o s hd ns O Q Z nr t WR YR vR nc m WC L ∧ fr (fun z => o ≤ z ∧ z ≤ o + 246) M M') := by
  have ho := h.sz
  obtain ⟨T1, T2, T3, U1, U2, hw⟩ := h.2.1
  refine Sp.ofGo (own := "CiteForge") (nm := "depth") (by decide) rfl rfl (Nat.le_of_ble_eq_true rfl) (lv := [(0, vr o)]) rfl ?_
  intro g X
  refine go_aload_n X d_CiteForge_depth_0 rfl rfl ?_
  refine go_get (v := vr (o + 183)) X f_CiteForge_41 h.1.1 rfl d_CiteForge_depth_1 (s_vref h.1.2.2.2.2.2.1 (by omega)) ?_
  refine go_cVf (st2 := [vi (s.1.2.1)]) (r := []) X k_CiteForge_188 (c_Stack_size l D hw.2.1 hw.1.2) hw.2.1.1 rfl rfl (by omega) (Nat.le_of_ble_eq_true rfl) d_CiteForge_depth_4 (by omega) (by omega) rfl ?_
  refine go_iret X d_CiteForge_depth_7 rfl ?_ (by omega) (by omega) ?_
  · rfl
  exact ⟨rfl, rfl, rfl, rfl, h, fun z _ => rfl⟩
set_option maxHeartbeats 4000000 in
set_option maxRecDepth 100000 in
theorem g_empty (l : Launch) (D : va_G) {sh : s_S} {M : s_M} {sz o : Int} {s : rnT} {hd : Int} {ns : Int} {O : Int → Int} {Q : Int → Int} {Z : Int → Int} {nr : Int} {t : List Int} {WR : Int → Int} {YR : Int → List Int} {vR : List Int} {nc : Int} {m : Int} {WC : Int → Int} {L : Int → Int} (h : cwd sh M sz o s hd ns O Q Z nr t WR YR vR nc m WC L) : Sp l D y_CiteForge_empty prog_1_method_18_code 1 (some .int) 4 0 0 [vr o] sh M sz (fun v' sh' M' sz' => ((0 : Int)) = 0 ∧ v' = some (vi (s.1.2.1)) ∧ sh' = sh ∧ sz' = sz ∧ cwd sh M' sz o ((s.1.1, 0, s.1.2.2), s.2) hd ns O Q Z nr t WR YR vR nc m WC L ∧ fr (fun z => o ≤ z ∧ z ≤ o + 246) M M') := by
  have ho := h.sz
  obtain ⟨T1, T2, T3, U1, U2, hw⟩ := h.2.1
  refine Sp.ofGo (own := "CiteForge") (nm := "empty") (by decide) rfl rfl (Nat.le_of_ble_eq_true rfl) (lv := [(0, vr o)]) rfl ?_
  intro g X
  refine go_aload_n X d_CiteForge_empty_0 rfl rfl ?_
  refine go_get (v := vr (o + 183)) X f_CiteForge_41 h.1.1 rfl d_CiteForge_empty_1 (s_vref h.1.2.2.2.2.2.1 (by omega)) ?_
  refine go_cV (st2 := []) (r := []) X k_CiteForge_208 (y_dropAll l D h ) hw.2.1.1 rfl rfl (by omega) (Nat.le_of_ble_eq_true rfl) d_CiteForge_empty_4 (by omega) (by omega) (fun v' sh' M1 sz' hpp => ?_)
  obtain ⟨e1, e2, e3, wd2, fr3⟩ := hpp
  subst e1
  rw [e2, e3]
  clear e2 e3
  show Go g 0 0 sh M1 sz 7 [(0, vr o)] [vi (s.1.2.1)]
  refine go_iret X d_CiteForge_empty_7 rfl ?_ (by omega) (by omega) ?_
  · rfl
  exact ⟨rfl, rfl, rfl, rfl, wd2, fr3⟩
set_option maxHeartbeats 4000000 in
set_option maxRecDepth 100000 in
theorem g_sort (l : Launch) (D : va_G) {sh : s_S} {M : s_M} {sz o : Int} {s : rnT} {hd : Int} {ns : Int} {O : Int → Int} {Q : Int → Int} {Z : Int → Int} {nr : Int} {t : List Int} {WR : Int → Int} {YR : Int → List Int} {vR : List Int} {nc : Int} {m : Int} {WC : Int → Int} {L : Int → Int} (h : cwd sh M sz o s hd ns O Q Z nr t WR YR vR nc m WC L) : Sp l D y_CiteForge_sort prog_1_method_9_code 1 (some .boolean) 6 0 0 [vr o] sh M sz (fun v' sh' M' sz' => ((0 : Int)) = 0 ∧ v' = some (vi (s_b (srl s.2.1.2 m L).2)) ∧ sh' = sh ∧ sz' = sz ∧ cwd sh M' sz o s hd ns O Q Z nr t WR YR vR nc m WC ((srl s.2.1.2 m L).1) ∧ fr (fun z => o ≤ z ∧ z ≤ o + 246) M M') := by
  have ho := h.sz
  obtain ⟨T1, T2, T3, U1, U2, hw⟩ := h.2.1
  refine Sp.ofGo (own := "CiteForge") (nm := "sort") (by decide) rfl rfl (Nat.le_of_ble_eq_true rfl) (lv := [(0, vr o)]) rfl ?_
  intro g X
  refine go_aload_n X d_CiteForge_sort_0 rfl rfl ?_
  refine go_get (v := vr (o + 180)) X f_CiteForge_34 h.1.1 rfl d_CiteForge_sort_1 (s_vref h.1.2.2.2.2.1 (by omega)) ?_
  refine go_cV (st2 := []) (r := []) X k_CiteForge_143 (y_sortList l D h ) h.2.2.2.1.1 rfl rfl (by omega) (Nat.le_of_ble_eq_true rfl) d_CiteForge_sort_4 (by omega) (by omega) (fun v' sh' M1 sz' hpp => ?_)
  obtain ⟨e1, e2, e3, wd2, fr3⟩ := hpp
  subst e1
  rw [e2, e3]
  clear e2 e3
  show Go g 0 0 sh M1 sz 7 [(0, vr o)] [vi (s_b (srl s.2.1.2 m L).2)]
  refine go_iret X d_CiteForge_sort_7 rfl ?_ (by omega) (by omega) ?_
  · exact s_b_nar _
  exact ⟨rfl, rfl, rfl, rfl, wd2, fr3⟩
set_option maxHeartbeats 4000000 in
set_option maxRecDepth 100000 in
theorem g_cite (l : Launch) (hl : l.stackTraces = false) (D : va_G) {sh : s_S} {M : s_M} {sz o : Int} {s : rnT} {hd : Int} {ns : Int} {O : Int → Int} {Q : Int → Int} {Z : Int → Int} {nr : Int} {t : List Int} {WR : Int → Int} {YR : Int → List Int} {vR : List Int} {nc : Int} {m : Int} {WC : Int → Int} {L : Int → Int} (h : cwd sh M sz o s hd ns O Q Z nr t WR YR vR nc m WC L) {x : Int} (hx : 0 ≤ x ∧ x < 18446744073709551616) : SpX l D y_CiteForge_cite prog_1_method_5_code 5 (some .boolean) 8 1 6 [vr o, vl x] sh M sz (fun v' sh' M' sz' => (cik WC nc x) = 0 ∧ v' = some (vi (civl WC nc x)) ∧ sh' = sh ∧ sz' = sz ∧ cwd sh M' sz o s hd ns O Q Z nr t WR YR vR (cin WC nc x) m (ciw WC nc x) L ∧ fr (fun z => o ≤ z ∧ z ≤ o + 246) M M') (fun E sh' M' sz' => sh' = sh ∧ M' = M ∧ sz' = sz + 1 ∧ ((E = "java/lang/IllegalArgumentException" ∧ (cik WC nc x) = 1) ∨ (E = "java/lang/IllegalStateException" ∧ (cik WC nc x) = 2))) := by
  have ho := h.sz
  obtain ⟨T1, T2, T3, U1, U2, hw⟩ := h.2.1
  refine SpX.ofGo hl (own := "CiteForge") (nm := "cite") (by decide) rfl rfl (Nat.le_of_ble_eq_true rfl) (lv := [(0, vr o), (1, vl x)]) rfl ?_
  intro g X XX
  refine go_lload_n X d_CiteForge_cite_0 rfl rfl ?_
  refine go_cSf (st2 := [vl (wof x)]) (r := []) X k_CiteForge_102 (c_wordOf l D (by omega)) rfl rfl (by omega) (Nat.le_of_ble_eq_true rfl) d_CiteForge_cite_1 (by omega) (by omega) rfl ?_
  have hw0 := wof_rng x
  refine go_lstore_n (lv' := [(3, vl (wof x)), (0, vr o), (1, vl x)]) X d_CiteForge_cite_4 rfl (by decide) rfl ?_
  refine go_lload_n X d_CiteForge_cite_5 rfl rfl ?_
  refine go_lconst (x := 0) X d_CiteForge_cite_6 (by decide) ?_
  refine go_lcmp X (by omega) (by omega) d_CiteForge_cite_7 ?_
  have hc0 := s_cmp_rng (wof x) 0
  refine go_if_ne (tgt := 19) X d_CiteForge_cite_8 rfl (by omega) (fun hq1 => ?_) (fun hq1 => ?_)
  · skip
    have g0 : ¬ wof x = 0 := fun q => hq1 (by rw [q]; decide)
    refine go_aload_n X d_CiteForge_cite_19 rfl rfl ?_
    refine go_get (v := vr (o + 180)) X f_CiteForge_34 h.1.1 rfl d_CiteForge_cite_20 (s_vref h.1.2.2.2.2.1 (by omega)) ?_
    refine go_lload_n X d_CiteForge_cite_23 rfl rfl ?_
    refine go_cVf (st2 := [vi (s_b (decide (0 ≤ fx WC nc (wof x))))]) (r := []) X k_CiteForge_106 (c_Citations_isCited l D h.2.2.2.1 (by omega)) h.2.2.2.1.1 rfl rfl (by omega) (Nat.le_of_ble_eq_true rfl) d_CiteForge_cite_24 (by omega) (by omega) rfl ?_
    refine go_ifb_eq (tgt := 32) X d_CiteForge_cite_27 rfl (fun hq2 => ?_) (fun hq2 => ?_)
    · skip
      refine go_aload_n X d_CiteForge_cite_32 rfl rfl ?_
      refine go_get (v := vr (o + 180)) X f_CiteForge_34 h.1.1 rfl d_CiteForge_cite_33 (s_vref h.1.2.2.2.2.1 (by omega)) ?_
      refine go_cVf (st2 := [vi (s_b (decide (10 ≤ nc)))]) (r := []) X k_CiteForge_110 (c_Citations_isFull l D h.2.2.2.1) h.2.2.2.1.1 rfl rfl (by omega) (Nat.le_of_ble_eq_true rfl) d_CiteForge_cite_36 (by omega) (by omega) rfl ?_
      refine go_ifb_eq (tgt := 50) X d_CiteForge_cite_39 rfl (fun hq3 => ?_) (fun hq3 => ?_)
      · skip
        refine go_aload_n X d_CiteForge_cite_50 rfl rfl ?_
        refine go_get (v := vr (o + 180)) X f_CiteForge_34 h.1.1 rfl d_CiteForge_cite_51 (s_vref h.1.2.2.2.2.1 (by omega)) ?_
        refine go_lload_n X d_CiteForge_cite_54 rfl rfl ?_
        refine go_cV (st2 := []) (r := []) X k_CiteForge_113 (y_add l D h (by omega) (by simpa using hq3)) h.2.2.2.1.1 rfl rfl (by omega) (Nat.le_of_ble_eq_true rfl) d_CiteForge_cite_55 (by omega) (by omega) (fun v' sh' M4 sz' hpp => ?_)
        obtain ⟨e1, e2, e3, wd5, fr6⟩ := hpp
        subst e1
        rw [e2, e3]
        clear e2 e3
        show Go g 0 0 sh M4 sz 58 [(3, vl (wof x)), (0, vr o), (1, vl x)] []
        refine go_iconst (v := 1) X d_CiteForge_cite_58 ?_
        refine go_iret X d_CiteForge_cite_59 rfl ?_ (by omega) (by omega) ?_
        · rfl
        have g1 : ¬ 0 ≤ fx WC nc (wof x) := by simpa using hq2
        have g2 : ¬ 10 ≤ nc := by simpa using hq3
        have e1 : civl WC nc x = 1 := if_neg g1
        have e2 : cin WC nc x = nc + 1 := if_neg g1
        have e3 : ciw WC nc x = rset WC nc (wof x) := if_neg g1
        rw [e1, e2, e3]
        exact ⟨((if_neg g0).trans (if_neg g1)).trans (if_neg g2), rfl, rfl, rfl, wd5, fr6⟩
      · skip
        refine go_throw X XX x_K_IS d_CiteForge_cite_42 d_CiteForge_cite_45 d_CiteForge_cite_46 d_CiteForge_cite_49 (by omega) (by omega) (by omega) ?_
        exact ⟨rfl, rfl, rfl, Or.inr ⟨rfl, ((if_neg g0).trans (if_neg (by simpa using hq2))).trans (if_pos (by simpa using hq3))⟩⟩
    · skip
      refine go_iconst (v := 0) X d_CiteForge_cite_30 ?_
      refine go_iret X d_CiteForge_cite_31 rfl ?_ (by omega) (by omega) ?_
      · rfl
      have g1 : 0 ≤ fx WC nc (wof x) := by simpa using hq2
      have e1 : civl WC nc x = 0 := if_pos g1
      have e2 : cin WC nc x = nc := if_pos g1
      have e3 : ciw WC nc x = WC := if_pos g1
      rw [e1, e2, e3]
      exact ⟨(if_neg g0).trans (if_pos g1), rfl, rfl, rfl, h, fun z _ => rfl⟩
  · skip
    refine go_throw X XX x_K_IA d_CiteForge_cite_11 d_CiteForge_cite_14 d_CiteForge_cite_15 d_CiteForge_cite_18 (by omega) (by omega) (by omega) ?_
    exact ⟨rfl, rfl, rfl, Or.inl ⟨rfl, if_pos (s_cmp0 hq1)⟩⟩
set_option maxHeartbeats 4000000 in
set_option maxRecDepth 100000 in
theorem g_list (l : Launch) (hl : l.stackTraces = false) (D : va_G) {sh : s_S} {M : s_M} {sz o : Int} {s : rnT} {hd : Int} {ns : Int} {O : Int → Int} {Q : Int → Int} {Z : Int → Int} {nr : Int} {t : List Int} {WR : Int → Int} {YR : Int → List Int} {vR : List Int} {nc : Int} {m : Int} {WC : Int → Int} {L : Int → Int} (h : cwd sh M sz o s hd ns O Q Z nr t WR YR vR nc m WC L) {i : Int} (hi : -2147483648 ≤ i ∧ i < 2147483648) : SpX l D y_CiteForge_list prog_1_method_7_code 2 (some .int) 8 1 6 [vr o, vi i] sh M sz (fun v' sh' M' sz' => (lsk i) = 0 ∧ v' = some (vi ((mkl WC nc ns i (0, L, s.1.1, s.2.1.2)).1)) ∧ sh' = sh ∧ sz' = sz ∧ cwd sh M' sz o (((mkl WC nc ns i (0, L, s.1.1, s.2.1.2)).2.2.1, s.1.2), (s.2.1.1, (mkl WC nc ns i (0, L, s.1.1, s.2.1.2)).2.2.2), s.2.2) hd ns O Q Z nr t WR YR vR nc ((mkl WC nc ns i (0, L, s.1.1, s.2.1.2)).1) WC ((mkl WC nc ns i (0, L, s.1.1, s.2.1.2)).2.1) ∧ fr (fun z => o ≤ z ∧ z ≤ o + 246) M M') (fun E sh' M' sz' => sh' = sh ∧ M' = M ∧ sz' = sz + 1 ∧ ((E = "java/lang/IllegalArgumentException" ∧ (lsk i) = 1))) := by
  have ho := h.sz
  obtain ⟨T1, T2, T3, U1, U2, hw⟩ := h.2.1
  refine SpX.ofGo hl (own := "CiteForge") (nm := "list") (by decide) rfl rfl (Nat.le_of_ble_eq_true rfl) (lv := [(0, vr o), (1, vi i)]) rfl ?_
  intro g X XX
  refine go_iload_n X d_CiteForge_list_0 rfl rfl ?_
  refine go_iconst (v := 1) X d_CiteForge_list_1 ?_
  refine go_icmp_ge (tgt := 13) X d_CiteForge_list_2 rfl (by omega) (by omega) (fun hq1 => ?_) (fun hq1 => ?_)
  · skip
    refine go_aload_n X d_CiteForge_list_13 rfl rfl ?_
    refine go_get (v := vr (o + 180)) X f_CiteForge_34 h.1.1 rfl d_CiteForge_list_14 (s_vref h.1.2.2.2.2.1 (by omega)) ?_
    refine go_iload_n X d_CiteForge_list_17 rfl rfl ?_
    refine go_cV (st2 := []) (r := []) X k_CiteForge_120 (y_makeList l D h (mn := i) (by omega)) h.2.2.2.1.1 rfl rfl (by omega) (Nat.le_of_ble_eq_true rfl) d_CiteForge_list_18 (by omega) (by omega) (fun v' sh' M2 sz' hpp => ?_)
    obtain ⟨e1, e2, e3, wd3, fr4⟩ := hpp
    subst e1
    rw [e2, e3]
    clear e2 e3
    show Go g 0 0 sh M2 sz 21 [(0, vr o), (1, vi i)] []
    refine go_aload_n X d_CiteForge_list_21 rfl rfl ?_
    refine go_get (v := vr (o + 180)) X f_CiteForge_34 wd3.1.1 rfl d_CiteForge_list_22 (s_vref wd3.1.2.2.2.2.1 (by omega)) ?_
    refine go_cVf (st2 := [vi ((mkl WC nc ns i (0, L, s.1.1, s.2.1.2)).1)]) (r := []) X k_CiteForge_124 (c_Citations_listSize l D wd3.2.2.2.1) wd3.2.2.2.1.1 rfl rfl (by omega) (Nat.le_of_ble_eq_true rfl) d_CiteForge_list_25 (by omega) (by omega) rfl ?_
    refine go_iret X d_CiteForge_list_28 rfl ?_ (by omega) (by omega) ?_
    · rfl
    exact ⟨if_neg (by omega), rfl, rfl, rfl, wd3, fr4⟩
  · skip
    refine go_throw X XX x_K_IA d_CiteForge_list_5 d_CiteForge_list_8 d_CiteForge_list_9 d_CiteForge_list_12 (by omega) (by omega) (by omega) ?_
    exact ⟨rfl, rfl, rfl, ⟨rfl, if_pos (by omega)⟩⟩
def kyk (m i : Int) : Int := if 0 ≤ i ∧ i < m then 0 else 1
def fik (E : Int → sen) (ns m : Int) (L : Int → Int) (i w j : Int) : Int := if 0 ≤ i ∧ i < m then (if (fo E ns (L i) w).2 < 0 then 2 else if 0 ≤ j ∧ j < (((E (fo E ns (L i) w).1).2.2.1 (fo E ns (L i) w).2).length : Int) then 0 else 1) else 1
def fiv (E : Int → sen) (ns : Int) (L : Int → Int) (i w j : Int) : Int := tg ((E (fo E ns (L i) w).1).2.2.1 (fo E ns (L i) w).2) j
def lek (n : Int) (f : Int → sva) (i j : Int) : Int := if (0 ≤ i ∧ i < n) ∧ 0 ≤ j ∧ j < ((f (n - 1 - i)).2.2.length : Int) then 0 else 1
def lik (np : Int) (K : Int → List Int) (i j : Int) : Int := if 0 ≤ i ∧ i < np ∧ i < 24 then (if 0 ≤ j ∧ j < ((K i).length : Int) then 0 else 2) else 1
def vlv (x : sva) : Int := if x.1 = 0 then x.2.1 else (x.2.2.length : Int)
set_option maxHeartbeats 4000000 in
set_option maxRecDepth 100000 in
theorem g_key (l : Launch) (hl : l.stackTraces = false) (D : va_G) {sh : s_S} {M : s_M} {sz o : Int} {s : rnT} {hd : Int} {ns : Int} {O : Int → Int} {Q : Int → Int} {Z : Int → Int} {nr : Int} {t : List Int} {WR : Int → Int} {YR : Int → List Int} {vR : List Int} {nc : Int} {m : Int} {WC : Int → Int} {L : Int → Int} (h : cwd sh M sz o s hd ns O Q Z nr t WR YR vR nc m WC L) {i : Int} (hi : -2147483648 ≤ i ∧ i < 2147483648) : SpX l D y_CiteForge_key prog_1_method_8_code 2 (some .long) 8 1 6 [vr o, vi i] sh M sz (fun v' sh' M' sz' => (kyk m i) = 0 ∧ v' = some (vl ((s.2.1.2 (L i)).1.1)) ∧ sh' = sh ∧ sz' = sz ∧ cwd sh M' sz o s hd ns O Q Z nr t WR YR vR nc m WC L ∧ fr (fun z => o ≤ z ∧ z ≤ o + 246) M M') (fun E sh' M' sz' => sh' = sh ∧ M' = M ∧ sz' = sz + 1 ∧ ((E = "java/lang/IndexOutOfBoundsException" ∧ (kyk m i) = 1))) := by
  have ho := h.sz
  obtain ⟨T1, T2, T3, U1, U2, hw⟩ := h.2.1
  refine SpX.ofGo hl (own := "CiteForge") (nm := "key") (by decide) rfl rfl (Nat.le_of_ble_eq_true rfl) (lv := [(0, vr o), (1, vi i)]) rfl ?_
  intro g X XX
  refine go_aload_n X d_CiteForge_key_0 rfl rfl ?_
  refine go_get (v := vr (o + 180)) X f_CiteForge_34 h.1.1 rfl d_CiteForge_key_1 (s_vref h.1.2.2.2.2.1 (by omega)) ?_
  refine go_iload_n X d_CiteForge_key_4 rfl rfl ?_
  refine go_cVf (st2 := [vi (s_b (decide (0 ≤ i ∧ i < m)))]) (r := []) X k_CiteForge_127 (c_Citations_isListed l D h.2.2.2.1 (by omega)) h.2.2.2.1.1 rfl rfl (by omega) (Nat.le_of_ble_eq_true rfl) d_CiteForge_key_5 (by omega) (by omega) rfl ?_
  refine go_ifb_ne (tgt := 19) X d_CiteForge_key_8 rfl (fun hq1 => ?_) (fun hq1 => ?_)
  · skip
    refine go_aload_n X d_CiteForge_key_19 rfl rfl ?_
    refine go_get (v := vr (o + 180)) X f_CiteForge_34 h.1.1 rfl d_CiteForge_key_20 (s_vref h.1.2.2.2.2.1 (by omega)) ?_
    refine go_iload_n X d_CiteForge_key_23 rfl rfl ?_
    simp only [decide_eq_true_eq, decide_eq_false_iff_not] at hq1
    refine go_cVf (st2 := [vr (o + 2 + 2 + 17 * L i)]) (r := []) X k_CiteForge_133 (c_Citations_listed l D h.2.2.2.1 (i := i) (by omega)) h.2.2.2.1.1 rfl rfl (by omega) (Nat.le_of_ble_eq_true rfl) d_CiteForge_key_24 (by omega) (by omega) rfl ?_
    have hL9 := (h.2.2.2.1.2.2.2.2.2.2.2.2.2.2.2.2.2.2.2.2.2.2 i (by omega) (by omega)).1
    have hen := (hw.2.2.2.2.2.2.2.2.2.1.ent (i := L i) hL9.1 (by omega)).2
    refine go_get (v := vl ((s.2.1.2 (L i)).1.1)) X f_CiteForge_137 hen.1 rfl d_CiteForge_key_27 (congrArg (s_v .long) hen.2.2.2.1) ?_
    refine go_lret X d_CiteForge_key_30 rfl (by omega) (by omega) ?_
    exact ⟨if_pos (by omega), rfl, rfl, rfl, h, fun z _ => rfl⟩
  · skip
    refine go_throw X XX x_K_IOOB d_CiteForge_key_11 d_CiteForge_key_14 d_CiteForge_key_15 d_CiteForge_key_18 (by omega) (by omega) (by omega) ?_
    exact ⟨rfl, rfl, rfl, ⟨rfl, if_neg (by have := hq1; simpa using this)⟩⟩
set_option maxHeartbeats 4000000 in
set_option maxRecDepth 100000 in
theorem g_field (l : Launch) (hl : l.stackTraces = false) (D : va_G) {sh : s_S} {M : s_M} {sz o : Int} {s : rnT} {hd : Int} {ns : Int} {O : Int → Int} {Q : Int → Int} {Z : Int → Int} {nr : Int} {t : List Int} {WR : Int → Int} {YR : Int → List Int} {vR : List Int} {nc : Int} {m : Int} {WC : Int → Int} {L : Int → Int} (h : cwd sh M sz o s hd ns O Q Z nr t WR YR vR nc m WC L) {i x j : Int} (hi : -2147483648 ≤ i ∧ i < 2147483648) (hj : -2147483648 ≤ j ∧ j < 2147483648) (hx : 0 ≤ x ∧ x < 18446744073709551616) : SpX l D y_CiteForge_field prog_1_method_10_code 6 (some .int) 8 1 6 [vr o, vi i, vl x, vi j] sh M sz (fun v' sh' M' sz' => (fik s.2.1.2 ns m L i (wof x) j) = 0 ∧ v' = some (vi (fiv s.2.1.2 ns L i (wof x) j)) ∧ sh' = sh ∧ sz' = sz ∧ cwd sh M' sz o s hd ns O Q Z nr t WR YR vR nc m WC L ∧ fr (fun z => o ≤ z ∧ z ≤ o + 246) M M') (fun E sh' M' sz' => sh' = sh ∧ M' = M ∧ sz' = sz + 1 ∧ ((E = "java/lang/IndexOutOfBoundsException" ∧ (fik s.2.1.2 ns m L i (wof x) j) = 1) ∨ (E = "java/util/NoSuchElementException" ∧ (fik s.2.1.2 ns m L i (wof x) j) = 2))) := by
  have ho := h.sz
  obtain ⟨T1, T2, T3, U1, U2, hw⟩ := h.2.1
  refine SpX.ofGo hl (own := "CiteForge") (nm := "field") (by decide) rfl rfl (Nat.le_of_ble_eq_true rfl) (lv := [(0, vr o), (1, vi i), (2, vl x), (4, vi j)]) rfl ?_
  intro g X XX
  refine go_aload_n X d_CiteForge_field_0 rfl rfl ?_
  refine go_get (v := vr (o + 180)) X f_CiteForge_34 h.1.1 rfl d_CiteForge_field_1 (s_vref h.1.2.2.2.2.1 (by omega)) ?_
  refine go_iload_n X d_CiteForge_field_4 rfl rfl ?_
  refine go_cVf (st2 := [vi (s_b (decide (0 ≤ i ∧ i < m)))]) (r := []) X k_CiteForge_127 (c_Citations_isListed l D h.2.2.2.1 (by omega)) h.2.2.2.1.1 rfl rfl (by omega) (Nat.le_of_ble_eq_true rfl) d_CiteForge_field_5 (by omega) (by omega) rfl ?_
  refine go_ifb_ne (tgt := 19) X d_CiteForge_field_8 rfl (fun hq1 => ?_) (fun hq1 => ?_)
  · skip
    refine go_aload_n X d_CiteForge_field_19 rfl rfl ?_
    refine go_get (v := vr (o + 2)) X f_CiteForge_18 h.1.1 rfl d_CiteForge_field_20 (s_vref h.1.2.2.1 (by omega)) ?_
    refine go_aload_n X d_CiteForge_field_23 rfl rfl ?_
    refine go_get (v := vr (o + 180)) X f_CiteForge_34 h.1.1 rfl d_CiteForge_field_24 (s_vref h.1.2.2.2.2.1 (by omega)) ?_
    refine go_iload_n X d_CiteForge_field_27 rfl rfl ?_
    simp only [decide_eq_true_eq, decide_eq_false_iff_not] at hq1
    refine go_cVf (st2 := [vr (o + 2 + 2 + 17 * L i), vr (o + 2)]) (r := [vr (o + 2)]) X k_CiteForge_133 (c_Citations_listed l D h.2.2.2.1 (i := i) (by omega)) h.2.2.2.1.1 rfl rfl (by omega) (Nat.le_of_ble_eq_true rfl) d_CiteForge_field_28 (by omega) (by omega) rfl ?_
    have hL9 := (h.2.2.2.1.2.2.2.2.2.2.2.2.2.2.2.2.2.2.2.2.2.2 i (by omega) (by omega)).1
    have hen := (hw.2.2.2.2.2.2.2.2.2.1.ent (i := L i) hL9.1 (by omega)).2
    refine go_lload_n X d_CiteForge_field_31 rfl rfl ?_
    refine go_cSf (st2 := [vl (wof x), vr (o + 2 + 2 + 17 * L i), vr (o + 2)]) (r := [vr (o + 2 + 2 + 17 * L i), vr (o + 2)]) X k_CiteForge_102 (c_wordOf l D (by omega)) rfl rfl (by omega) (Nat.le_of_ble_eq_true rfl) d_CiteForge_field_32 (by omega) (by omega) rfl ?_
    have hwr := wof_rng x
    refine go_cVf (st2 := [fq (o + 2 + 2 + 17 * (fo s.2.1.2 ns (L i) (wof x)).1 + 2) (fo s.2.1.2 ns (L i) (wof x)).2]) (r := []) X k_CiteForge_146 (c_Shelf_fieldOf l D hw.2.2.2.2.2.2.2.2.2.1 (j := L i) (by omega) ⟨by omega, by omega⟩) hw.2.2.2.2.2.2.2.2.2.1.1 rfl rfl (by omega) (Nat.le_of_ble_eq_true rfl) d_CiteForge_field_35 (by omega) (by omega) rfl ?_
    have hfr := fo_rng (v := wof x) hw.2.2.2.2.2.2.2.2.2.1 (j := L i) (by omega)
    rcases Int.lt_or_le (fo s.2.1.2 ns (L i) (wof x)).2 0 with hf9 | hf9
    · skip
      refine go_top (v' := .null) X (if_neg (by omega)) ?_
      refine go_astoreN (lv' := [(5, .null), (0, vr o), (1, vi i), (2, vl x), (4, vi j)]) X d_CiteForge_field_38 (by decide) rfl ?_
      refine go_aloadN X d_CiteForge_field_40 rfl ?_
      refine go_ifnonnullN X d_CiteForge_field_42 ?_
      refine go_throw X XX x_K_NSE d_CiteForge_field_45 d_CiteForge_field_48 d_CiteForge_field_49 d_CiteForge_field_52 (by omega) (by omega) (by omega) ?_
      exact ⟨rfl, rfl, rfl, Or.inr ⟨rfl, (if_pos (by omega)).trans (if_pos hf9)⟩⟩
    · skip
      refine go_top (v' := vr (o + 2 + 2 + 17 * (fo s.2.1.2 ns (L i) (wof x)).1 + 2 + 1 + 2 * (fo s.2.1.2 ns (L i) (wof x)).2)) X (if_pos hf9) ?_
      have het := ((hw.2.2.2.2.2.2.2.2.2.1.ent (i := (fo s.2.1.2 ns (L i) (wof x)).1) hfr.1.1 hfr.1.2).2.2.2.2.2.2.2.2.2.2.2.2.2.2.2.2.1 (fo s.2.1.2 ns (L i) (wof x)).2 hf9 hfr.2).2
      refine go_astore (lv' := [(5, vr (o + 2 + 2 + 17 * (fo s.2.1.2 ns (L i) (wof x)).1 + 2 + 1 + 2 * (fo s.2.1.2 ns (L i) (wof x)).2)), (0, vr o), (1, vi i), (2, vl x), (4, vi j)]) X d_CiteForge_field_38 (by decide) rfl ?_
      refine go_aload X d_CiteForge_field_40 rfl ?_
      refine go_ifnonnull (tgt := 53) X d_CiteForge_field_42 rfl ?_
      refine go_aload X d_CiteForge_field_53 rfl ?_
      refine go_iload X d_CiteForge_field_55 rfl ?_
      refine go_cVf (st2 := [vi (s_b (decide (0 ≤ j ∧ j < (((s.2.1.2 (fo s.2.1.2 ns (L i) (wof x)).1).2.2.1 (fo s.2.1.2 ns (L i) (wof x)).2).length : Int))))]) (r := []) X k_CiteForge_153 (k_Text_has l D het (by omega)) het.1.1 rfl rfl (by omega) (Nat.le_of_ble_eq_true rfl) d_CiteForge_field_57 (by omega) (by omega) rfl ?_
      refine go_ifb_ne (tgt := 71) X d_CiteForge_field_60 rfl (fun hq2 => ?_) (fun hq2 => ?_)
      · skip
        refine go_aload X d_CiteForge_field_71 rfl ?_
        refine go_iload X d_CiteForge_field_73 rfl ?_
        refine go_cVf (st2 := [vi (tg ((s.2.1.2 (fo s.2.1.2 ns (L i) (wof x)).1).2.2.1 (fo s.2.1.2 ns (L i) (wof x)).2) j)]) (r := []) X k_CiteForge_158 (k_Text_at l D het (by omega)) het.1.1 rfl rfl (by omega) (Nat.le_of_ble_eq_true rfl) d_CiteForge_field_75 (by omega) (by omega) rfl ?_
        refine go_iret X d_CiteForge_field_78 rfl ?_ (by omega) (by omega) ?_
        · rfl
        exact ⟨(if_pos (by omega)).trans ((if_neg (by omega)).trans (if_pos (by have := hq2; simpa using this))), rfl, rfl, rfl, h, fun z _ => rfl⟩
      · skip
        refine go_throw X XX x_K_IOOB d_CiteForge_field_63 d_CiteForge_field_66 d_CiteForge_field_67 d_CiteForge_field_70 (by omega) (by omega) (by omega) ?_
        exact ⟨rfl, rfl, rfl, Or.inl ⟨rfl, (if_pos (by omega)).trans ((if_neg (by omega)).trans (if_neg (by have := hq2; simpa using this)))⟩⟩
  · skip
    refine go_throw X XX x_K_IOOB d_CiteForge_field_11 d_CiteForge_field_14 d_CiteForge_field_15 d_CiteForge_field_18 (by omega) (by omega) (by omega) ?_
    exact ⟨rfl, rfl, rfl, Or.inl ⟨rfl, if_neg (by have := hq1; simpa using this)⟩⟩
set_option maxHeartbeats 4000000 in
set_option maxRecDepth 100000 in
theorem g_define (l : Launch) (hl : l.stackTraces = false) (D : va_G) {sh : s_S} {M : s_M} {sz o : Int} {s : rnT} {hd : Int} {ns : Int} {O : Int → Int} {Q : Int → Int} {Z : Int → Int} {nr : Int} {t : List Int} {WR : Int → Int} {YR : Int → List Int} {vR : List Int} {nc : Int} {m : Int} {WC : Int → Int} {L : Int → Int} (h : cwd sh M sz o s hd ns O Q Z nr t WR YR vR nc m WC L) {f q v : Int} (hf : -2147483648 ≤ f ∧ f < 2147483648) (hq : -2147483648 ≤ q ∧ q < 2147483648) (hv : rL v) (hZ : zok Z) : SpX l D y_CiteForge_define prog_1_method_11_code 5 (some .int) 8 1 6 [vr o, vi f, vi q, vl v] sh M sz (fun v' sh' M' sz' => (dek Z f q) = 0 ∧ v' = some (vi (Z f + 1)) ∧ sh' = sh ∧ sz' = sz ∧ cwd sh M' sz o s hd ns (rset O (f * 24 + Z f) q) (rset Q (f * 24 + Z f) (if 13 ≤ q then max v 0 else v)) (inc Z f) nr t WR YR vR nc m WC L ∧ fr (fun z => o ≤ z ∧ z ≤ o + 246) M M') (fun E sh' M' sz' => sh' = sh ∧ M' = M ∧ sz' = sz + 1 ∧ ((E = "java/lang/IllegalArgumentException" ∧ (dek Z f q) = 1) ∨ (E = "java/lang/IllegalStateException" ∧ (dek Z f q) = 2))) := by
  have ho := h.sz
  obtain ⟨T1, T2, T3, U1, U2, hw⟩ := h.2.1
  refine SpX.ofGo hl (own := "CiteForge") (nm := "define") (by decide) rfl rfl (Nat.le_of_ble_eq_true rfl) (lv := [(0, vr o), (1, vi f), (2, vi q), (3, vl v)]) rfl ?_
  intro g X XX
  refine go_iload_n X d_CiteForge_define_0 rfl rfl ?_
  refine go_cSf (st2 := [vi (s_b (decide (0 ≤ f ∧ f < 6)))]) (r := []) X k_CiteForge_162 (c_Machine_isFunction l D (by omega)) rfl rfl (by omega) (Nat.le_of_ble_eq_true rfl) d_CiteForge_define_1 (by omega) (by omega) rfl ?_
  refine go_ifb_eq (tgt := 14) X d_CiteForge_define_4 rfl (fun hq1 => ?_) (fun hq1 => ?_)
  · skip
    simp only [decide_eq_true_eq, decide_eq_false_iff_not] at hq1
    refine go_throw X XX x_K_IA d_CiteForge_define_14 d_CiteForge_define_17 d_CiteForge_define_18 d_CiteForge_define_21 (by omega) (by omega) (by omega) ?_
    exact ⟨rfl, rfl, rfl, Or.inl ⟨rfl, if_neg (by omega)⟩⟩
  · skip
    simp only [decide_eq_true_eq, decide_eq_false_iff_not] at hq1
    refine go_iload_n X d_CiteForge_define_7 rfl rfl ?_
    refine go_cSf (st2 := [vi (s_b (decide (0 ≤ q ∧ q < 30)))]) (r := []) X k_CiteForge_165 (c_Machine_isOperation l D (by omega)) rfl rfl (by omega) (Nat.le_of_ble_eq_true rfl) d_CiteForge_define_8 (by omega) (by omega) rfl ?_
    refine go_ifb_ne (tgt := 22) X d_CiteForge_define_11 rfl (fun hq2 => ?_) (fun hq2 => ?_)
    · skip
      simp only [decide_eq_true_eq, decide_eq_false_iff_not] at hq2
      refine go_aload_n X d_CiteForge_define_22 rfl rfl ?_
      refine go_get (v := vr (o + 225)) X f_CiteForge_57 h.1.1 rfl d_CiteForge_define_23 (s_vref h.1.2.2.2.2.2.2.2.1 (by omega)) ?_
      refine go_iload_n X d_CiteForge_define_26 rfl rfl ?_
      refine go_cVf (st2 := [vi (s_b (decide (24 ≤ Z f)))]) (r := []) X k_CiteForge_168 (c_Machine_isFull l D hw.2.2.1 (by omega) (hZ f (by omega) (by omega))) hw.2.2.1.1 rfl rfl (by omega) (Nat.le_of_ble_eq_true rfl) d_CiteForge_define_27 (by omega) (by omega) rfl ?_
      refine go_ifb_eq (tgt := 41) X d_CiteForge_define_30 rfl (fun hq3 => ?_) (fun hq3 => ?_)
      · skip
        refine go_aload_n X d_CiteForge_define_41 rfl rfl ?_
        refine go_get (v := vr (o + 225)) X f_CiteForge_57 h.1.1 rfl d_CiteForge_define_42 (s_vref h.1.2.2.2.2.2.2.2.1 (by omega)) ?_
        refine go_iload_n X d_CiteForge_define_45 rfl rfl ?_
        refine go_iload_n X d_CiteForge_define_46 rfl rfl ?_
        refine go_lload_n X d_CiteForge_define_47 rfl rfl ?_
        refine go_cV (st2 := []) (r := []) X k_CiteForge_170 (y_addOperation l D h (by omega) (hZ f (by omega) (by omega)) (by simpa using hq3) (by omega) hv) hw.2.2.1.1 rfl rfl (by omega) (Nat.le_of_ble_eq_true rfl) d_CiteForge_define_48 (by omega) (by omega) (fun v' sh' M4 sz' hpp => ?_)
        obtain ⟨e1, e2, e3, wd5, fr6⟩ := hpp
        subst e1
        rw [e2, e3]
        clear e2 e3
        show Go g 0 0 sh M4 sz 51 [(0, vr o), (1, vi f), (2, vi q), (3, vl v)] [vi (Z f + 1)]
        refine go_iret X d_CiteForge_define_51 rfl ?_ (by omega) (by omega) ?_
        · rfl
        exact ⟨(if_pos (by omega)).trans (if_neg (by have := hq3; simpa using this)), rfl, rfl, rfl, wd5, fr6⟩
      · skip
        refine go_throw X XX x_K_IS d_CiteForge_define_33 d_CiteForge_define_36 d_CiteForge_define_37 d_CiteForge_define_40 (by omega) (by omega) (by omega) ?_
        exact ⟨rfl, rfl, rfl, Or.inr ⟨rfl, (if_pos (by omega)).trans (if_pos (by have := hq3; simpa using this))⟩⟩
    · skip
      simp only [decide_eq_true_eq, decide_eq_false_iff_not] at hq2
      refine go_throw X XX x_K_IA d_CiteForge_define_14 d_CiteForge_define_17 d_CiteForge_define_18 d_CiteForge_define_21 (by omega) (by omega) (by omega) ?_
      exact ⟨rfl, rfl, rfl, Or.inl ⟨rfl, if_neg (by omega)⟩⟩
set_option maxHeartbeats 4000000 in
set_option maxRecDepth 100000 in
theorem g_clear (l : Launch) (hl : l.stackTraces = false) (D : va_G) {sh : s_S} {M : s_M} {sz o : Int} {s : rnT} {hd : Int} {ns : Int} {O : Int → Int} {Q : Int → Int} {Z : Int → Int} {nr : Int} {t : List Int} {WR : Int → Int} {YR : Int → List Int} {vR : List Int} {nc : Int} {m : Int} {WC : Int → Int} {L : Int → Int} (h : cwd sh M sz o s hd ns O Q Z nr t WR YR vR nc m WC L) {f : Int} (hf : -2147483648 ≤ f ∧ f < 2147483648) (hZ : zok Z) : SpX l D y_CiteForge_clear prog_1_method_12_code 2 (some .int) 8 1 6 [vr o, vi f] sh M sz (fun v' sh' M' sz' => (clk f) = 0 ∧ v' = some (vi (Z f)) ∧ sh' = sh ∧ sz' = sz ∧ cwd sh M' sz o s hd ns O Q (rset Z f 0) nr t WR YR vR nc m WC L ∧ fr (fun z => o ≤ z ∧ z ≤ o + 246) M M') (fun E sh' M' sz' => sh' = sh ∧ M' = M ∧ sz' = sz + 1 ∧ ((E = "java/lang/IllegalArgumentException" ∧ (clk f) = 1))) := by
  have ho := h.sz
  obtain ⟨T1, T2, T3, U1, U2, hw⟩ := h.2.1
  refine SpX.ofGo hl (own := "CiteForge") (nm := "clear") (by decide) rfl rfl (Nat.le_of_ble_eq_true rfl) (lv := [(0, vr o), (1, vi f)]) rfl ?_
  intro g X XX
  refine go_iload_n X d_CiteForge_clear_0 rfl rfl ?_
  refine go_cSf (st2 := [vi (s_b (decide (0 ≤ f ∧ f < 6)))]) (r := []) X k_CiteForge_162 (c_Machine_isFunction l D (by omega)) rfl rfl (by omega) (Nat.le_of_ble_eq_true rfl) d_CiteForge_clear_1 (by omega) (by omega) rfl ?_
  refine go_ifb_ne (tgt := 15) X d_CiteForge_clear_4 rfl (fun hq1 => ?_) (fun hq1 => ?_)
  · skip
    simp only [decide_eq_true_eq, decide_eq_false_iff_not] at hq1
    refine go_aload_n X d_CiteForge_clear_15 rfl rfl ?_
    refine go_get (v := vr (o + 225)) X f_CiteForge_57 h.1.1 rfl d_CiteForge_clear_16 (s_vref h.1.2.2.2.2.2.2.2.1 (by omega)) ?_
    refine go_iload_n X d_CiteForge_clear_19 rfl rfl ?_
    refine go_cV (st2 := []) (r := []) X k_CiteForge_174 (y_dropOperations l D h (by omega) (hZ f (by omega) (by omega))) hw.2.2.1.1 rfl rfl (by omega) (Nat.le_of_ble_eq_true rfl) d_CiteForge_clear_20 (by omega) (by omega) (fun v' sh' M2 sz' hpp => ?_)
    obtain ⟨e1, e2, e3, wd3, fr4⟩ := hpp
    subst e1
    rw [e2, e3]
    clear e2 e3
    show Go g 0 0 sh M2 sz 23 [(0, vr o), (1, vi f)] [vi (Z f)]
    refine go_iret X d_CiteForge_clear_23 rfl ?_ (by omega) (by omega) ?_
    · rfl
    exact ⟨if_pos (by omega), rfl, rfl, rfl, wd3, fr4⟩
  · skip
    simp only [decide_eq_true_eq, decide_eq_false_iff_not] at hq1
    refine go_throw X XX x_K_IA d_CiteForge_clear_7 d_CiteForge_clear_10 d_CiteForge_clear_11 d_CiteForge_clear_14 (by omega) (by omega) (by omega) ?_
    exact ⟨rfl, rfl, rfl, ⟨rfl, if_neg (by omega)⟩⟩
set_option maxHeartbeats 4000000 in
set_option maxRecDepth 100000 in
theorem g_kind (l : Launch) (hl : l.stackTraces = false) (D : va_G) {sh : s_S} {M : s_M} {sz o : Int} {s : rnT} {hd : Int} {ns : Int} {O : Int → Int} {Q : Int → Int} {Z : Int → Int} {nr : Int} {t : List Int} {WR : Int → Int} {YR : Int → List Int} {vR : List Int} {nc : Int} {m : Int} {WC : Int → Int} {L : Int → Int} (h : cwd sh M sz o s hd ns O Q Z nr t WR YR vR nc m WC L) {i : Int} (hi : -2147483648 ≤ i ∧ i < 2147483648) : SpX l D y_CiteForge_kind prog_1_method_15_code 2 (some .int) 8 1 6 [vr o, vi i] sh M sz (fun v' sh' M' sz' => (kyk s.1.2.1 i) = 0 ∧ v' = some (vi ((s.1.2.2 (s.1.2.1 - 1 - i)).1)) ∧ sh' = sh ∧ sz' = sz ∧ cwd sh M' sz o s hd ns O Q Z nr t WR YR vR nc m WC L ∧ fr (fun z => o ≤ z ∧ z ≤ o + 246) M M') (fun E sh' M' sz' => sh' = sh ∧ M' = M ∧ sz' = sz + 1 ∧ ((E = "java/lang/IndexOutOfBoundsException" ∧ (kyk s.1.2.1 i) = 1))) := by
  have ho := h.sz
  obtain ⟨T1, T2, T3, U1, U2, hw⟩ := h.2.1
  refine SpX.ofGo hl (own := "CiteForge") (nm := "kind") (by decide) rfl rfl (Nat.le_of_ble_eq_true rfl) (lv := [(0, vr o), (1, vi i)]) rfl ?_
  intro g X XX
  refine go_aload_n X d_CiteForge_kind_0 rfl rfl ?_
  refine go_get (v := vr (o + 183)) X f_CiteForge_41 h.1.1 rfl d_CiteForge_kind_1 (s_vref h.1.2.2.2.2.2.1 (by omega)) ?_
  refine go_iload_n X d_CiteForge_kind_4 rfl rfl ?_
  refine go_cVf (st2 := [vi (s_b (decide (0 ≤ i ∧ i < s.1.2.1)))]) (r := []) X k_CiteForge_189 (c_Stack_has l D hw.2.1 hw.1.2 (by omega)) hw.2.1.1 rfl rfl (by omega) (Nat.le_of_ble_eq_true rfl) d_CiteForge_kind_5 (by omega) (by omega) rfl ?_
  refine go_ifb_ne (tgt := 19) X d_CiteForge_kind_8 rfl (fun hq1 => ?_) (fun hq1 => ?_)
  · skip
    refine go_aload_n X d_CiteForge_kind_19 rfl rfl ?_
    refine go_get (v := vr (o + 183)) X f_CiteForge_41 h.1.1 rfl d_CiteForge_kind_20 (s_vref h.1.2.2.2.2.2.1 (by omega)) ?_
    refine go_iload_n X d_CiteForge_kind_23 rfl rfl ?_
    simp only [decide_eq_true_eq, decide_eq_false_iff_not] at hq1
    refine go_cVf (st2 := [vr (o + 183 + 2 + 3 * (s.1.2.1 - 1 - i))]) (r := []) X k_CiteForge_190 (c_Stack_fromTop l D hw.2.1 hw.1.2 (i := i) (by omega)) hw.2.1.1 rfl rfl (by omega) (Nat.le_of_ble_eq_true rfl) d_CiteForge_kind_24 (by omega) (by omega) rfl ?_
    have hn9 := hw.2.1.2.2.2.2.2.2.1
    have hvv := (hw.2.1.2.2.2.2.2.2.2.2.2.2 (s.1.2.1 - 1 - i) (by omega) (by omega)).2
    have hk9 := hvv.2.2.2.2.2.2.2
    have hm9 := hvv.2.2.2.2.2.2.1
    have hl9 := hvv.2.2.1.len
    refine go_get (v := vi ((s.1.2.2 (s.1.2.1 - 1 - i)).1)) X f_CiteForge_194 hvv.1 rfl d_CiteForge_kind_27 (congrArg (s_v .int) hvv.2.2.2.1) ?_
    refine go_iret X d_CiteForge_kind_30 rfl ?_ (by omega) (by omega) ?_
    · rfl
    exact ⟨if_pos (by omega), rfl, rfl, rfl, h, fun z _ => rfl⟩
  · skip
    refine go_throw X XX x_K_IOOB d_CiteForge_kind_11 d_CiteForge_kind_14 d_CiteForge_kind_15 d_CiteForge_kind_18 (by omega) (by omega) (by omega) ?_
    exact ⟨rfl, rfl, rfl, ⟨rfl, if_neg (by have := hq1; simpa using this)⟩⟩
set_option maxHeartbeats 4000000 in
set_option maxRecDepth 100000 in
theorem g_value (l : Launch) (hl : l.stackTraces = false) (D : va_G) {sh : s_S} {M : s_M} {sz o : Int} {s : rnT} {hd : Int} {ns : Int} {O : Int → Int} {Q : Int → Int} {Z : Int → Int} {nr : Int} {t : List Int} {WR : Int → Int} {YR : Int → List Int} {vR : List Int} {nc : Int} {m : Int} {WC : Int → Int} {L : Int → Int} (h : cwd sh M sz o s hd ns O Q Z nr t WR YR vR nc m WC L) {i : Int} (hi : -2147483648 ≤ i ∧ i < 2147483648) : SpX l D y_CiteForge_value prog_1_method_16_code 3 (some .int) 8 1 6 [vr o, vi i] sh M sz (fun v' sh' M' sz' => (kyk s.1.2.1 i) = 0 ∧ v' = some (vi (vlv (s.1.2.2 (s.1.2.1 - 1 - i)))) ∧ sh' = sh ∧ sz' = sz ∧ cwd sh M' sz o s hd ns O Q Z nr t WR YR vR nc m WC L ∧ fr (fun z => o ≤ z ∧ z ≤ o + 246) M M') (fun E sh' M' sz' => sh' = sh ∧ M' = M ∧ sz' = sz + 1 ∧ ((E = "java/lang/IndexOutOfBoundsException" ∧ (kyk s.1.2.1 i) = 1))) := by
  have ho := h.sz
  obtain ⟨T1, T2, T3, U1, U2, hw⟩ := h.2.1
  refine SpX.ofGo hl (own := "CiteForge") (nm := "value") (by decide) rfl rfl (Nat.le_of_ble_eq_true rfl) (lv := [(0, vr o), (1, vi i)]) rfl ?_
  intro g X XX
  refine go_aload_n X d_CiteForge_value_0 rfl rfl ?_
  refine go_get (v := vr (o + 183)) X f_CiteForge_41 h.1.1 rfl d_CiteForge_value_1 (s_vref h.1.2.2.2.2.2.1 (by omega)) ?_
  refine go_iload_n X d_CiteForge_value_4 rfl rfl ?_
  refine go_cVf (st2 := [vi (s_b (decide (0 ≤ i ∧ i < s.1.2.1)))]) (r := []) X k_CiteForge_189 (c_Stack_has l D hw.2.1 hw.1.2 (by omega)) hw.2.1.1 rfl rfl (by omega) (Nat.le_of_ble_eq_true rfl) d_CiteForge_value_5 (by omega) (by omega) rfl ?_
  refine go_ifb_ne (tgt := 19) X d_CiteForge_value_8 rfl (fun hq1 => ?_) (fun hq1 => ?_)
  · skip
    refine go_aload_n X d_CiteForge_value_19 rfl rfl ?_
    refine go_get (v := vr (o + 183)) X f_CiteForge_41 h.1.1 rfl d_CiteForge_value_20 (s_vref h.1.2.2.2.2.2.1 (by omega)) ?_
    refine go_iload_n X d_CiteForge_value_23 rfl rfl ?_
    simp only [decide_eq_true_eq, decide_eq_false_iff_not] at hq1
    refine go_cVf (st2 := [vr (o + 183 + 2 + 3 * (s.1.2.1 - 1 - i))]) (r := []) X k_CiteForge_190 (c_Stack_fromTop l D hw.2.1 hw.1.2 (i := i) (by omega)) hw.2.1.1 rfl rfl (by omega) (Nat.le_of_ble_eq_true rfl) d_CiteForge_value_24 (by omega) (by omega) rfl ?_
    have hn9 := hw.2.1.2.2.2.2.2.2.1
    have hvv := (hw.2.1.2.2.2.2.2.2.2.2.2.2 (s.1.2.1 - 1 - i) (by omega) (by omega)).2
    have hk9 := hvv.2.2.2.2.2.2.2
    have hm9 := hvv.2.2.2.2.2.2.1
    have hl9 := hvv.2.2.1.len
    refine go_astore_n (lv' := [(2, vr (o + 183 + 2 + 3 * (s.1.2.1 - 1 - i))), (0, vr o), (1, vi i)]) X d_CiteForge_value_27 rfl (by decide) rfl ?_
    refine go_aload_n X d_CiteForge_value_28 rfl rfl ?_
    refine go_get (v := vi ((s.1.2.2 (s.1.2.1 - 1 - i)).1)) X f_CiteForge_194 hvv.1 rfl d_CiteForge_value_29 (congrArg (s_v .int) hvv.2.2.2.1) ?_
    refine go_if_ne (tgt := 42) X d_CiteForge_value_32 rfl (by omega) (fun hq2 => ?_) (fun hq2 => ?_)
    · skip
      refine go_aload_n X d_CiteForge_value_42 rfl rfl ?_
      refine go_get (v := vr (o + 183 + 2 + 3 * (s.1.2.1 - 1 - i) + 1)) X f_CiteForge_203 hvv.1 rfl d_CiteForge_value_43 (s_vref hvv.2.1 (by omega)) ?_
      refine go_cVf (st2 := [vi (((s.1.2.2 (s.1.2.1 - 1 - i)).2.2).length : Int)]) (r := []) X k_CiteForge_207 (k_Text_size l D hvv.2.2.1) hvv.2.2.1.1.1 rfl rfl (by omega) (Nat.le_of_ble_eq_true rfl) d_CiteForge_value_46 (by omega) (by omega) rfl ?_
      refine go_iret X d_CiteForge_value_49 rfl ?_ (by omega) (by omega) ?_
      · rfl
      have hV : vlv (s.1.2.2 (s.1.2.1 - 1 - i)) = (((s.1.2.2 (s.1.2.1 - 1 - i)).2.2).length : Int) := if_neg hq2
      rw [hV]
      exact ⟨if_pos (by omega), rfl, rfl, rfl, h, fun z _ => rfl⟩
    · skip
      refine go_aload_n X d_CiteForge_value_35 rfl rfl ?_
      refine go_get (v := vi ((s.1.2.2 (s.1.2.1 - 1 - i)).2.1)) X f_CiteForge_200 hvv.1 rfl d_CiteForge_value_36 (congrArg (s_v .int) hvv.2.2.2.2.1) ?_
      refine go_goto (tgt := 49) X d_CiteForge_value_39 rfl ?_
      refine go_iret X d_CiteForge_value_49 rfl ?_ (by omega) (by omega) ?_
      · rfl
      have hV : vlv (s.1.2.2 (s.1.2.1 - 1 - i)) = (s.1.2.2 (s.1.2.1 - 1 - i)).2.1 := if_pos hq2
      rw [hV]
      exact ⟨if_pos (by omega), rfl, rfl, rfl, h, fun z _ => rfl⟩
  · skip
    refine go_throw X XX x_K_IOOB d_CiteForge_value_11 d_CiteForge_value_14 d_CiteForge_value_15 d_CiteForge_value_18 (by omega) (by omega) (by omega) ?_
    exact ⟨rfl, rfl, rfl, ⟨rfl, if_neg (by have := hq1; simpa using this)⟩⟩
set_option maxHeartbeats 4000000 in
set_option maxRecDepth 100000 in
theorem g_letter (l : Launch) (hl : l.stackTraces = false) (D : va_G) {sh : s_S} {M : s_M} {sz o : Int} {s : rnT} {hd : Int} {ns : Int} {O : Int → Int} {Q : Int → Int} {Z : Int → Int} {nr : Int} {t : List Int} {WR : Int → Int} {YR : Int → List Int} {vR : List Int} {nc : Int} {m : Int} {WC : Int → Int} {L : Int → Int} (h : cwd sh M sz o s hd ns O Q Z nr t WR YR vR nc m WC L) {i j : Int} (hi : -2147483648 ≤ i ∧ i < 2147483648) (hj : -2147483648 ≤ j ∧ j < 2147483648) : SpX l D y_CiteForge_letter prog_1_method_17_code 3 (some .int) 8 1 6 [vr o, vi i, vi j] sh M sz (fun v' sh' M' sz' => (lek s.1.2.1 s.1.2.2 i j) = 0 ∧ v' = some (vi (tg (s.1.2.2 (s.1.2.1 - 1 - i)).2.2 j)) ∧ sh' = sh ∧ sz' = sz ∧ cwd sh M' sz o s hd ns O Q Z nr t WR YR vR nc m WC L ∧ fr (fun z => o ≤ z ∧ z ≤ o + 246) M M') (fun E sh' M' sz' => sh' = sh ∧ M' = M ∧ sz' = sz + 1 ∧ ((E = "java/lang/IndexOutOfBoundsException" ∧ (lek s.1.2.1 s.1.2.2 i j) = 1))) := by
  have ho := h.sz
  obtain ⟨T1, T2, T3, U1, U2, hw⟩ := h.2.1
  refine SpX.ofGo hl (own := "CiteForge") (nm := "letter") (by decide) rfl rfl (Nat.le_of_ble_eq_true rfl) (lv := [(0, vr o), (1, vi i), (2, vi j)]) rfl ?_
  intro g X XX
  refine go_aload_n X d_CiteForge_letter_0 rfl rfl ?_
  refine go_get (v := vr (o + 183)) X f_CiteForge_41 h.1.1 rfl d_CiteForge_letter_1 (s_vref h.1.2.2.2.2.2.1 (by omega)) ?_
  refine go_iload_n X d_CiteForge_letter_4 rfl rfl ?_
  refine go_cVf (st2 := [vi (s_b (decide (0 ≤ i ∧ i < s.1.2.1)))]) (r := []) X k_CiteForge_189 (c_Stack_has l D hw.2.1 hw.1.2 (by omega)) hw.2.1.1 rfl rfl (by omega) (Nat.le_of_ble_eq_true rfl) d_CiteForge_letter_5 (by omega) (by omega) rfl ?_
  refine go_ifb_eq (tgt := 29) X d_CiteForge_letter_8 rfl (fun hq1 => ?_) (fun hq1 => ?_)
  · skip
    refine go_throw X XX x_K_IOOB d_CiteForge_letter_29 d_CiteForge_letter_32 d_CiteForge_letter_33 d_CiteForge_letter_36 (by omega) (by omega) (by omega) ?_
    exact ⟨rfl, rfl, rfl, ⟨rfl, if_neg (fun z => by have := hq1; simp at this; omega)⟩⟩
  · skip
    refine go_aload_n X d_CiteForge_letter_11 rfl rfl ?_
    refine go_get (v := vr (o + 183)) X f_CiteForge_41 h.1.1 rfl d_CiteForge_letter_12 (s_vref h.1.2.2.2.2.2.1 (by omega)) ?_
    refine go_iload_n X d_CiteForge_letter_15 rfl rfl ?_
    simp only [decide_eq_true_eq, decide_eq_false_iff_not] at hq1
    refine go_cVf (st2 := [vr (o + 183 + 2 + 3 * (s.1.2.1 - 1 - i))]) (r := []) X k_CiteForge_190 (c_Stack_fromTop l D hw.2.1 hw.1.2 (i := i) (by omega)) hw.2.1.1 rfl rfl (by omega) (Nat.le_of_ble_eq_true rfl) d_CiteForge_letter_16 (by omega) (by omega) rfl ?_
    have hn9 := hw.2.1.2.2.2.2.2.2.1
    have hvv := (hw.2.1.2.2.2.2.2.2.2.2.2.2 (s.1.2.1 - 1 - i) (by omega) (by omega)).2
    have hk9 := hvv.2.2.2.2.2.2.2
    have hm9 := hvv.2.2.2.2.2.2.1
    have hl9 := hvv.2.2.1.len
    refine go_get (v := vr (o + 183 + 2 + 3 * (s.1.2.1 - 1 - i) + 1)) X f_CiteForge_203 hvv.1 rfl d_CiteForge_letter_19 (s_vref hvv.2.1 (by omega)) ?_
    refine go_iload_n X d_CiteForge_letter_22 rfl rfl ?_
    refine go_cVf (st2 := [vi (s_b (decide (0 ≤ j ∧ j < (((s.1.2.2 (s.1.2.1 - 1 - i)).2.2).length : Int))))]) (r := []) X k_CiteForge_153 (k_Text_has l D hvv.2.2.1 (by omega)) hvv.2.2.1.1.1 rfl rfl (by omega) (Nat.le_of_ble_eq_true rfl) d_CiteForge_letter_23 (by omega) (by omega) rfl ?_
    refine go_ifb_ne (tgt := 37) X d_CiteForge_letter_26 rfl (fun hq2 => ?_) (fun hq2 => ?_)
    · skip
      refine go_aload_n X d_CiteForge_letter_37 rfl rfl ?_
      refine go_get (v := vr (o + 183)) X f_CiteForge_41 h.1.1 rfl d_CiteForge_letter_38 (s_vref h.1.2.2.2.2.2.1 (by omega)) ?_
      refine go_iload_n X d_CiteForge_letter_41 rfl rfl ?_
      refine go_cVf (st2 := [vr (o + 183 + 2 + 3 * (s.1.2.1 - 1 - i))]) (r := []) X k_CiteForge_190 (c_Stack_fromTop l D hw.2.1 hw.1.2 (i := i) (by omega)) hw.2.1.1 rfl rfl (by omega) (Nat.le_of_ble_eq_true rfl) d_CiteForge_letter_42 (by omega) (by omega) rfl ?_
      refine go_get (v := vr (o + 183 + 2 + 3 * (s.1.2.1 - 1 - i) + 1)) X f_CiteForge_203 hvv.1 rfl d_CiteForge_letter_45 (s_vref hvv.2.1 (by omega)) ?_
      refine go_iload_n X d_CiteForge_letter_48 rfl rfl ?_
      refine go_cVf (st2 := [vi (tg ((s.1.2.2 (s.1.2.1 - 1 - i)).2.2) j)]) (r := []) X k_CiteForge_158 (k_Text_at l D hvv.2.2.1 (by omega)) hvv.2.2.1.1.1 rfl rfl (by omega) (Nat.le_of_ble_eq_true rfl) d_CiteForge_letter_49 (by omega) (by omega) rfl ?_
      refine go_iret X d_CiteForge_letter_52 rfl ?_ (by omega) (by omega) ?_
      · rfl
      exact ⟨if_pos ⟨by omega, by have := hq2; simpa using this⟩, rfl, rfl, rfl, h, fun z _ => rfl⟩
    · skip
      refine go_throw X XX x_K_IOOB d_CiteForge_letter_29 d_CiteForge_letter_32 d_CiteForge_letter_33 d_CiteForge_letter_36 (by omega) (by omega) (by omega) ?_
      exact ⟨rfl, rfl, rfl, ⟨rfl, if_neg (fun z => by have := hq2; simp at this; omega)⟩⟩
set_option maxHeartbeats 4000000 in
set_option maxRecDepth 100000 in
theorem g_line (l : Launch) (hl : l.stackTraces = false) (D : va_G) {sh : s_S} {M : s_M} {sz o : Int} {s : rnT} {hd : Int} {ns : Int} {O : Int → Int} {Q : Int → Int} {Z : Int → Int} {nr : Int} {t : List Int} {WR : Int → Int} {YR : Int → List Int} {vR : List Int} {nc : Int} {m : Int} {WC : Int → Int} {L : Int → Int} (h : cwd sh M sz o s hd ns O Q Z nr t WR YR vR nc m WC L) {i j : Int} (hi : -2147483648 ≤ i ∧ i < 2147483648) (hj : -2147483648 ≤ j ∧ j < 2147483648) (hnp : s.2.2.1.1 < 2147483648) : SpX l D y_CiteForge_line prog_1_method_19_code 3 (some .int) 8 1 6 [vr o, vi i, vi j] sh M sz (fun v' sh' M' sz' => (lik s.2.2.1.1 s.2.2.1.2.2 i j) = 0 ∧ v' = some (vi (tg (s.2.2.1.2.2 i) j)) ∧ sh' = sh ∧ sz' = sz ∧ cwd sh M' sz o s hd ns O Q Z nr t WR YR vR nc m WC L ∧ fr (fun z => o ≤ z ∧ z ≤ o + 246) M M') (fun E sh' M' sz' => sh' = sh ∧ M' = M ∧ sz' = sz + 1 ∧ ((E = "java/util/NoSuchElementException" ∧ (lik s.2.2.1.1 s.2.2.1.2.2 i j) = 1) ∨ (E = "java/lang/IndexOutOfBoundsException" ∧ (lik s.2.2.1.1 s.2.2.1.2.2 i j) = 2))) := by
  have ho := h.sz
  obtain ⟨T1, T2, T3, U1, U2, hw⟩ := h.2.1
  refine SpX.ofGo hl (own := "CiteForge") (nm := "line") (by decide) rfl rfl (Nat.le_of_ble_eq_true rfl) (lv := [(0, vr o), (1, vi i), (2, vi j)]) rfl ?_
  intro g X XX
  refine go_aload_n X d_CiteForge_line_0 rfl rfl ?_
  refine go_get (v := vr (o + 221)) X f_CiteForge_48 h.1.1 rfl d_CiteForge_line_1 (s_vref h.1.2.2.2.2.2.2.1 (by omega)) ?_
  refine go_iload_n X d_CiteForge_line_4 rfl rfl ?_
  refine go_cVf (st2 := [vi (s_b (decide (0 ≤ i ∧ i < s.2.2.1.1 ∧ i < 24)))]) (r := []) X k_CiteForge_211 (c_Page_isKept l D hw.2.2.2.2.2.2.2.2.2.2.1 (by omega) (by omega)) hw.2.2.2.2.2.2.2.2.2.2.1.1 rfl rfl (by omega) (Nat.le_of_ble_eq_true rfl) d_CiteForge_line_5 (by omega) (by omega) rfl ?_
  refine go_ifb_ne (tgt := 19) X d_CiteForge_line_8 rfl (fun hq1 => ?_) (fun hq1 => ?_)
  · skip
    refine go_aload_n X d_CiteForge_line_19 rfl rfl ?_
    refine go_get (v := vr (o + 221)) X f_CiteForge_48 h.1.1 rfl d_CiteForge_line_20 (s_vref h.1.2.2.2.2.2.2.1 (by omega)) ?_
    refine go_iload_n X d_CiteForge_line_23 rfl rfl ?_
    simp only [decide_eq_true_eq] at hq1
    obtain ⟨A9, hpl⟩ := hw.2.2.2.2.2.2.2.2.2.2.2.1
    rw [show o + 224 = o + 221 + 3 by omega] at hpl
    have hln := (hpl i (by omega) (by omega) (by omega)).2.1
    refine go_cVf (st2 := [vr (A9 i)]) (r := []) X k_CiteForge_214 (c_Page_keptLine l D hw.2.2.2.2.2.2.2.2.2.2.1 hpl (by omega) (i := i) (by omega)) hw.2.2.2.2.2.2.2.2.2.2.1.1 rfl rfl (by omega) (Nat.le_of_ble_eq_true rfl) d_CiteForge_line_24 (by omega) (by omega) rfl ?_
    refine go_iload_n X d_CiteForge_line_27 rfl rfl ?_
    refine go_cVf (st2 := [vi (s_b (decide (0 ≤ j ∧ j < ((s.2.2.1.2.2 i).length : Int))))]) (r := []) X k_CiteForge_153 (k_Text_has l D hln (by omega)) hln.1.1 rfl rfl (by omega) (Nat.le_of_ble_eq_true rfl) d_CiteForge_line_28 (by omega) (by omega) rfl ?_
    refine go_ifb_ne (tgt := 42) X d_CiteForge_line_31 rfl (fun hq2 => ?_) (fun hq2 => ?_)
    · skip
      refine go_aload_n X d_CiteForge_line_42 rfl rfl ?_
      refine go_get (v := vr (o + 221)) X f_CiteForge_48 h.1.1 rfl d_CiteForge_line_43 (s_vref h.1.2.2.2.2.2.2.1 (by omega)) ?_
      refine go_iload_n X d_CiteForge_line_46 rfl rfl ?_
      refine go_cVf (st2 := [vr (A9 i)]) (r := []) X k_CiteForge_214 (c_Page_keptLine l D hw.2.2.2.2.2.2.2.2.2.2.1 hpl (by omega) (i := i) (by omega)) hw.2.2.2.2.2.2.2.2.2.2.1.1 rfl rfl (by omega) (Nat.le_of_ble_eq_true rfl) d_CiteForge_line_47 (by omega) (by omega) rfl ?_
      refine go_iload_n X d_CiteForge_line_50 rfl rfl ?_
      refine go_cVf (st2 := [vi (tg (s.2.2.1.2.2 i) j)]) (r := []) X k_CiteForge_158 (k_Text_at l D hln (by omega)) hln.1.1 rfl rfl (by omega) (Nat.le_of_ble_eq_true rfl) d_CiteForge_line_51 (by omega) (by omega) rfl ?_
      refine go_iret X d_CiteForge_line_54 rfl ?_ (by omega) (by omega) ?_
      · rfl
      exact ⟨(if_pos (by omega)).trans (if_pos (by have := hq2; simpa using this)), rfl, rfl, rfl, h, fun z _ => rfl⟩
    · skip
      refine go_throw X XX x_K_IOOB d_CiteForge_line_34 d_CiteForge_line_37 d_CiteForge_line_38 d_CiteForge_line_41 (by omega) (by omega) (by omega) ?_
      exact ⟨rfl, rfl, rfl, Or.inr ⟨rfl, (if_pos (by omega)).trans (if_neg (by have := hq2; simpa using this))⟩⟩
  · skip
    refine go_throw X XX x_K_NSE d_CiteForge_line_11 d_CiteForge_line_14 d_CiteForge_line_15 d_CiteForge_line_18 (by omega) (by omega) (by omega) ?_
    exact ⟨rfl, rfl, rfl, Or.inl ⟨rfl, if_neg (by have := hq1; simpa using this)⟩⟩
set_option maxHeartbeats 4000000 in
set_option maxRecDepth 100000 in
theorem g_count (l : Launch) (hl : l.stackTraces = false) (D : va_G) {sh : s_S} {M : s_M} {sz o : Int} {s : rnT} {hd : Int} {ns : Int} {O : Int → Int} {Q : Int → Int} {Z : Int → Int} {nr : Int} {t : List Int} {WR : Int → Int} {YR : Int → List Int} {vR : List Int} {nc : Int} {m : Int} {WC : Int → Int} {L : Int → Int} (h : cwd sh M sz o s hd ns O Q Z nr t WR YR vR nc m WC L) {i : Int} (hi : -2147483648 ≤ i ∧ i < 2147483648) (hnp : s.2.2.1.1 < 2147483648) : SpX l D y_CiteForge_count prog_1_method_20_code 2 (some .int) 8 1 6 [vr o, vi i] sh M sz (fun v' sh' M' sz' => (cok i) = 0 ∧ v' = some (vi (cov i ns m s.2.2.1.1 (s.2.2.1.2.1.length : Int) nc)) ∧ sh' = sh ∧ sz' = sz ∧ cwd sh M' sz o s hd ns O Q Z nr t WR YR vR nc m WC L ∧ fr (fun z => o ≤ z ∧ z ≤ o + 246) M M') (fun E sh' M' sz' => sh' = sh ∧ M' = M ∧ sz' = sz + 1 ∧ ((E = "java/lang/IndexOutOfBoundsException" ∧ (cok i) = 1))) := by
  have ho := h.sz
  obtain ⟨T1, T2, T3, U1, U2, hw⟩ := h.2.1
  refine SpX.ofGo hl (own := "CiteForge") (nm := "count") (by decide) rfl rfl (Nat.le_of_ble_eq_true rfl) (lv := [(0, vr o), (1, vi i)]) rfl ?_
  intro g X XX
  refine go_iload_n X d_CiteForge_count_0 rfl rfl ?_
  rcases (show (i < 0 ∨ 4 < i) ∨ i = 0 ∨ i = 1 ∨ i = 2 ∨ i = 3 ∨ i = 4 by omega) with ht1 | ht1 | ht1 | ht1 | ht1 | ht1
  · skip
    refine go_tabOut (tgt := 76) X d_CiteForge_count_1 (by omega) ht1 rfl ?_
    refine go_throw X XX x_K_IOOB d_CiteForge_count_76 d_CiteForge_count_79 d_CiteForge_count_80 d_CiteForge_count_83 (by omega) (by omega) (by omega) ?_
    exact ⟨rfl, rfl, rfl, ⟨rfl, if_neg (by omega)⟩⟩
  · skip
    refine go_tabIn (off := 35) (tgt := 36) X d_CiteForge_count_1 (by omega) (by omega) (by omega) (by rw [ht1]; rfl) rfl ?_
    refine go_aload_n X d_CiteForge_count_36 rfl rfl ?_
    refine go_get (v := vr (o + 2)) X f_CiteForge_18 h.1.1 rfl d_CiteForge_count_37 (s_vref h.1.2.2.1 (by omega)) ?_
    refine go_cVf (st2 := [vi ns]) (r := []) X k_CiteForge_99 (c_Shelf_size l D hw.2.2.2.2.2.2.2.2.2.1) hw.2.2.2.2.2.2.2.2.2.1.1 rfl rfl (by omega) (Nat.le_of_ble_eq_true rfl) d_CiteForge_count_40 (by omega) (by omega) rfl ?_
    refine go_iret X d_CiteForge_count_43 rfl ?_ (by omega) (by omega) ?_
    · rfl
    exact ⟨if_pos (by omega), by rw [ht1]; rfl, rfl, rfl, h, fun z _ => rfl⟩
  · skip
    refine go_tabIn (off := 43) (tgt := 44) X d_CiteForge_count_1 (by omega) (by omega) (by omega) (by rw [ht1]; rfl) rfl ?_
    refine go_aload_n X d_CiteForge_count_44 rfl rfl ?_
    refine go_get (v := vr (o + 180)) X f_CiteForge_34 h.1.1 rfl d_CiteForge_count_45 (s_vref h.1.2.2.2.2.1 (by omega)) ?_
    refine go_cVf (st2 := [vi m]) (r := []) X k_CiteForge_124 (c_Citations_listSize l D h.2.2.2.1) h.2.2.2.1.1 rfl rfl (by omega) (Nat.le_of_ble_eq_true rfl) d_CiteForge_count_48 (by omega) (by omega) rfl ?_
    refine go_iret X d_CiteForge_count_51 rfl ?_ (by omega) (by omega) ?_
    · rfl
    exact ⟨if_pos (by omega), by rw [ht1]; rfl, rfl, rfl, h, fun z _ => rfl⟩
  · skip
    refine go_tabIn (off := 51) (tgt := 52) X d_CiteForge_count_1 (by omega) (by omega) (by omega) (by rw [ht1]; rfl) rfl ?_
    refine go_aload_n X d_CiteForge_count_52 rfl rfl ?_
    refine go_get (v := vr (o + 221)) X f_CiteForge_48 h.1.1 rfl d_CiteForge_count_53 (s_vref h.1.2.2.2.2.2.2.1 (by omega)) ?_
    refine go_cVf (st2 := [vi (s.2.2.1.1)]) (r := []) X k_CiteForge_218 (c_Page_lineCount l D hw.2.2.2.2.2.2.2.2.2.2.1) hw.2.2.2.2.2.2.2.2.2.2.1.1 rfl rfl (by omega) (Nat.le_of_ble_eq_true rfl) d_CiteForge_count_56 (by omega) (by omega) rfl ?_
    refine go_iret X d_CiteForge_count_59 rfl ?_ (by omega) (by omega) ?_
    · rfl
    exact ⟨if_pos (by omega), by rw [ht1]; rfl, rfl, rfl, h, fun z _ => rfl⟩
  · skip
    refine go_tabIn (off := 59) (tgt := 60) X d_CiteForge_count_1 (by omega) (by omega) (by omega) (by rw [ht1]; rfl) rfl ?_
    refine go_aload_n X d_CiteForge_count_60 rfl rfl ?_
    refine go_get (v := vr (o + 221)) X f_CiteForge_48 h.1.1 rfl d_CiteForge_count_61 (s_vref h.1.2.2.2.2.2.2.1 (by omega)) ?_
    refine go_cVf (st2 := [vi (s.2.2.1.2.1.length : Int)]) (r := []) X k_CiteForge_221 (c_Page_lengthAtHand l D hw.2.2.2.2.2.2.2.2.2.2.1) hw.2.2.2.2.2.2.2.2.2.2.1.1 rfl rfl (by omega) (Nat.le_of_ble_eq_true rfl) d_CiteForge_count_64 (by omega) (by omega) rfl ?_
    refine go_iret X d_CiteForge_count_67 rfl ?_ (by omega) (by omega) ?_
    · rfl
    exact ⟨if_pos (by omega), by rw [ht1]; rfl, rfl, rfl, h, fun z _ => rfl⟩
  · skip
    refine go_tabIn (off := 67) (tgt := 68) X d_CiteForge_count_1 (by omega) (by omega) (by omega) (by rw [ht1]; rfl) rfl ?_
    refine go_aload_n X d_CiteForge_count_68 rfl rfl ?_
    refine go_get (v := vr (o + 180)) X f_CiteForge_34 h.1.1 rfl d_CiteForge_count_69 (s_vref h.1.2.2.2.2.1 (by omega)) ?_
    refine go_cVf (st2 := [vi nc]) (r := []) X k_CiteForge_224 (c_Citations_size l D h.2.2.2.1) h.2.2.2.1.1 rfl rfl (by omega) (Nat.le_of_ble_eq_true rfl) d_CiteForge_count_72 (by omega) (by omega) rfl ?_
    refine go_iret X d_CiteForge_count_75 rfl ?_ (by omega) (by omega) ?_
    · rfl
    exact ⟨if_pos (by omega), by rw [ht1]; rfl, rfl, rfl, h, fun z _ => rfl⟩
set_option maxHeartbeats 4000000 in
set_option maxRecDepth 100000 in
theorem g_warnings (l : Launch) (hl : l.stackTraces = false) (D : va_G) {sh : s_S} {M : s_M} {sz o : Int} {s : rnT} {hd : Int} {ns : Int} {O : Int → Int} {Q : Int → Int} {Z : Int → Int} {nr : Int} {t : List Int} {WR : Int → Int} {YR : Int → List Int} {vR : List Int} {nc : Int} {m : Int} {WC : Int → Int} {L : Int → Int} (h : cwd sh M sz o s hd ns O Q Z nr t WR YR vR nc m WC L) {i : Int} (hi : -2147483648 ≤ i ∧ i < 2147483648) : SpX l D y_CiteForge_warnings prog_1_method_21_code 2 (some .int) 8 1 6 [vr o, vi i] sh M sz (fun v' sh' M' sz' => (wak i) = 0 ∧ v' = some (vi (wi32 (s.1.1 i))) ∧ sh' = sh ∧ sz' = sz ∧ cwd sh M' sz o s hd ns O Q Z nr t WR YR vR nc m WC L ∧ fr (fun z => o ≤ z ∧ z ≤ o + 246) M M') (fun E sh' M' sz' => sh' = sh ∧ M' = M ∧ sz' = sz + 1 ∧ ((E = "java/lang/IndexOutOfBoundsException" ∧ (wak i) = 1))) := by
  have ho := h.sz
  obtain ⟨T1, T2, T3, U1, U2, hw⟩ := h.2.1
  refine SpX.ofGo hl (own := "CiteForge") (nm := "warnings") (by decide) rfl rfl (Nat.le_of_ble_eq_true rfl) (lv := [(0, vr o), (1, vi i)]) rfl ?_
  intro g X XX
  refine go_iload_n X d_CiteForge_warnings_0 rfl rfl ?_
  refine go_iconst (v := 1) X d_CiteForge_warnings_1 ?_
  refine go_icmp_lt (tgt := 11) X d_CiteForge_warnings_2 rfl (by omega) (by omega) (fun hq1 => ?_) (fun hq1 => ?_)
  · skip
    refine go_throw X XX x_K_IOOB d_CiteForge_warnings_11 d_CiteForge_warnings_14 d_CiteForge_warnings_15 d_CiteForge_warnings_18 (by omega) (by omega) (by omega) ?_
    exact ⟨rfl, rfl, rfl, ⟨rfl, if_neg (by omega)⟩⟩
  · skip
    refine go_iload_n X d_CiteForge_warnings_5 rfl rfl ?_
    refine go_bipush (v := 9) X d_CiteForge_warnings_6 (by decide) ?_
    refine go_icmp_le (tgt := 19) X d_CiteForge_warnings_8 rfl (by omega) (by omega) (fun hq2 => ?_) (fun hq2 => ?_)
    · skip
      refine go_aload_n X d_CiteForge_warnings_19 rfl rfl ?_
      refine go_get (v := vr (o + 1)) X f_CiteForge_9 h.1.1 rfl d_CiteForge_warnings_20 (s_varr h.1.2.1 (by omega)) ?_
      refine go_iload_n X d_CiteForge_warnings_23 rfl rfl ?_
      refine go_iald X hw.1.1 (by omega) (by omega) d_CiteForge_warnings_24 ?_
      refine go_top (v' := vi (s.1.1 i)) X (by rw [hw.1.2]) ?_
      refine go_iret X d_CiteForge_warnings_25 rfl ?_ (by omega) (by omega) ?_
      · rfl
      exact ⟨if_pos (by omega), congrArg some (wi32_vi _), rfl, rfl, h, fun z _ => rfl⟩
    · skip
      refine go_throw X XX x_K_IOOB d_CiteForge_warnings_11 d_CiteForge_warnings_14 d_CiteForge_warnings_15 d_CiteForge_warnings_18 (by omega) (by omega) (by omega) ?_
      exact ⟨rfl, rfl, rfl, ⟨rfl, if_neg (by omega)⟩⟩
