/-- what write answers: a code, and the new length -/
def wrk (t : List Int) (x n : Int) : Int := if 1 ≤ n ∧ n ≤ 8 ∧ ala x n = true then (if (t.length : Int) + n ≤ 320 then 0 else 2) else 1
set_option maxHeartbeats 4000000 in
set_option maxRecDepth 100000 in
theorem f_write (l : Launch) (hl : l.stackTraces = false) (D : va_G) {sh : s_S} {M : s_M} {sz o : Int} (hc : cfx sh M o) {nr : Int} {t : List Int} {WR : Int → Int} {YR : Int → List Int} {vR : List Int} (hrd : rdv sh M (o + 157) (o + 2) (o + 1) nr t WR YR vR) {x n_ : Int} (hx : 0 ≤ x ∧ x < 18446744073709551616) (hn : -2147483648 ≤ n_ ∧ n_ < 2147483648) : SpX l D y_CiteForge_write prog_1_method_2_code 4 (some .int) 8 1 6 [vr o, vl x, vi n_] sh M sz (fun v' sh' M' sz' => (wrk t x n_) = 0 ∧ v' = some (vi ((t.length : Int) + n_)) ∧ sh' = sh ∧ sz' = sz ∧ rdv sh M' (o + 157) (o + 2) (o + 1) nr (ads x n_ t) WR YR vR ∧ fr (fun z => o + 1 ≤ z ∧ z ≤ o + 246) M M') (fun E sh' M' sz' => sh' = sh ∧ M' = M ∧ sz' = sz + 1 ∧ ((E = "java/lang/IllegalArgumentException" ∧ (wrk t x n_) = 1) ∨ (E = "java/lang/IllegalStateException" ∧ (wrk t x n_) = 2))) := by
  have q0 := hc.1
  have q8 : 0 ≤ o := hc.2.2.2.2.2.2.2.2
  have q3 := hc.2.2.2.1
  refine SpX.ofGo hl (own := "CiteForge") (nm := "write") (by decide) rfl rfl (Nat.le_of_ble_eq_true rfl) (lv := [(0, vr o), (1, vl x), (3, vi n_)]) rfl ?_
  intro g X XX
  refine go_iload_n X d_CiteForge_write_0 rfl rfl ?_
  refine go_iconst (v := 1) X d_CiteForge_write_1 ?_
  refine go_icmp_lt (tgt := 19) X d_CiteForge_write_2 rfl (by omega) (by omega) (fun hq1 => ?_) (fun hq1 => ?_)
  · skip
    refine go_throw X XX x_K_IA d_CiteForge_write_19 d_CiteForge_write_22 d_CiteForge_write_23 d_CiteForge_write_26 (by omega) (by omega) (by omega) ?_
    exact ⟨rfl, rfl, rfl, Or.inl ⟨rfl, if_neg (by intro q; obtain ⟨g1, g2, g3⟩ := q; first | omega | (rw [g3] at hq1; exact absurd hq1 (by decide)))⟩⟩
  · skip
    refine go_iload_n X d_CiteForge_write_5 rfl rfl ?_
    refine go_bipush (v := 8) X d_CiteForge_write_6 (by decide) ?_
    refine go_icmp_gt (tgt := 19) X d_CiteForge_write_8 rfl (by omega) (by omega) (fun hq2 => ?_) (fun hq2 => ?_)
    · skip
      refine go_throw X XX x_K_IA d_CiteForge_write_19 d_CiteForge_write_22 d_CiteForge_write_23 d_CiteForge_write_26 (by omega) (by omega) (by omega) ?_
      exact ⟨rfl, rfl, rfl, Or.inl ⟨rfl, if_neg (by intro q; obtain ⟨g1, g2, g3⟩ := q; first | omega | (rw [g3] at hq2; exact absurd hq2 (by decide)))⟩⟩
    · skip
      refine go_lload_n X d_CiteForge_write_11 rfl rfl ?_
      refine go_iload_n X d_CiteForge_write_12 rfl rfl ?_
      refine go_cSf (st2 := [vi (s_b (ala x n_))]) (r := []) X k_CiteForge_61 (c_Reader_allCharacters l D (by omega) (by omega)) rfl rfl (by omega) (Nat.le_of_ble_eq_true rfl) d_CiteForge_write_13 (by omega) (by omega) rfl ?_
      refine go_ifb_ne (tgt := 27) X d_CiteForge_write_16 rfl (fun hq3 => ?_) (fun hq3 => ?_)
      · skip
        refine go_aload_n X d_CiteForge_write_27 rfl rfl ?_
        refine go_get (v := vr (o + 157)) X f_CiteForge_27 q0 rfl d_CiteForge_write_28 (s_vref q3 (by omega)) ?_
        refine go_iload_n X d_CiteForge_write_31 rfl rfl ?_
        refine go_cVf (st2 := [vi (s_b (decide ((t.length : Int) + n_ ≤ 320)))]) (r := []) X k_CiteForge_68 (c_Reader_hasRoom l D hrd (by omega)) hrd.1 rfl rfl (by omega) (Nat.le_of_ble_eq_true rfl) d_CiteForge_write_32 (by omega) (by omega) rfl ?_
        refine go_ifb_ne (tgt := 46) X d_CiteForge_write_35 rfl (fun hq4 => ?_) (fun hq4 => ?_)
        · skip
          refine go_aload_n X d_CiteForge_write_46 rfl rfl ?_
          refine go_get (v := vr (o + 157)) X f_CiteForge_27 q0 rfl d_CiteForge_write_47 (s_vref q3 (by omega)) ?_
          refine go_lload_n X d_CiteForge_write_50 rfl rfl ?_
          refine go_iload_n X d_CiteForge_write_51 rfl rfl ?_
          refine go_cV (st2 := []) (r := []) X k_CiteForge_75 (c_Reader_addCharacters l D hrd hx (by omega)) hrd.1 rfl rfl (by omega) (Nat.le_of_ble_eq_true rfl) d_CiteForge_write_52 (by omega) (by omega) (fun v' sh' M5 sz' hp6 => ?_)
          obtain ⟨e7, e8, e9, pd11, fr10⟩ := hp6
          subst e7
          rw [e8, e9]
          show Go g 0 0 sh M5 sz 55 [(0, vr o), (1, vl x), (3, vi n_)] [vi ((ads x n_ t).length : Int)]
          have e12 : M5 o 2 = o + 157 := (congrFun (fr10 o (by omega)) _).trans q3
          have fr13 : fr (fun z => o + 1 ≤ z ∧ z ≤ o + 246) M M5 := fun z hz => by
            have hz1 : ¬ (o + 1 ≤ z ∧ z ≤ o + 246) := hz
            exact (fr10 z (by omega))
          clear q3
          refine go_iret X d_CiteForge_write_55 rfl ?_ (by omega) (by omega) ?_
          · rfl
          have g1 : (t.length : Int) + n_ ≤ 320 := by simpa using hq4
          have g2 : ((ads x n_ t).length : Int) = t.length + n_ := ads_len (by omega) g1
          rw [g2]
          exact ⟨(if_pos ⟨by omega, by omega, hq3⟩).trans (if_pos g1), rfl, rfl, rfl, pd11, fr13⟩
        · skip
          refine go_throw X XX x_K_IS d_CiteForge_write_38 d_CiteForge_write_41 d_CiteForge_write_42 d_CiteForge_write_45 (by omega) (by omega) (by omega) ?_
          exact ⟨rfl, rfl, rfl, Or.inr ⟨rfl, (if_pos ⟨by omega, by omega, hq3⟩).trans (if_neg (by simpa using hq4))⟩⟩
      · skip
        refine go_throw X XX x_K_IA d_CiteForge_write_19 d_CiteForge_write_22 d_CiteForge_write_23 d_CiteForge_write_26 (by omega) (by omega) (by omega) ?_
        exact ⟨rfl, rfl, rfl, Or.inl ⟨rfl, if_neg (by intro q; obtain ⟨g1, g2, g3⟩ := q; first | omega | (rw [g3] at hq3; exact absurd hq3 (by decide)))⟩⟩
set_option maxHeartbeats 4000000 in
set_option maxRecDepth 100000 in
theorem f_erase (l : Launch) (D : va_G) {sh : s_S} {M : s_M} {sz o : Int} (hc : cfx sh M o) {nr : Int} {t : List Int} {WR : Int → Int} {YR : Int → List Int} {vR : List Int} (hrd : rdv sh M (o + 157) (o + 2) (o + 1) nr t WR YR vR)  : Sp l D y_CiteForge_erase prog_1_method_3_code 1 (some .int) 4 0 0 [vr o] sh M sz (fun v' sh' M' sz' => v' = some (vi (t.length : Int)) ∧ sh' = sh ∧ sz' = sz ∧ rdv sh M' (o + 157) (o + 2) (o + 1) nr [] WR YR vR ∧ fr (fun z => o + 1 ≤ z ∧ z ≤ o + 246) M M') := by
  have q0 := hc.1
  have q8 : 0 ≤ o := hc.2.2.2.2.2.2.2.2
  have q3 := hc.2.2.2.1
  refine Sp.ofGo (own := "CiteForge") (nm := "erase") (by decide) rfl rfl (Nat.le_of_ble_eq_true rfl) (lv := [(0, vr o)]) rfl ?_
  intro g X
  refine go_aload_n X d_CiteForge_erase_0 rfl rfl ?_
  refine go_get (v := vr (o + 157)) X f_CiteForge_27 q0 rfl d_CiteForge_erase_1 (s_vref q3 (by omega)) ?_
  refine go_cV (st2 := []) (r := []) X k_CiteForge_79 (c_Reader_dropSource l D hrd) hrd.1 rfl rfl (by omega) (Nat.le_of_ble_eq_true rfl) d_CiteForge_erase_4 (by omega) (by omega) (fun v' sh' M1 sz' hp2 => ?_)
  obtain ⟨e3, e4, e5, pd7, fr6⟩ := hp2
  subst e3
  rw [e4, e5]
  show Go g 0 0 sh M1 sz 7 [(0, vr o)] [vi (t.length : Int)]
  have e8 : M1 o 2 = o + 157 := (congrFun (fr6 o (by omega)) _).trans q3
  have fr9 : fr (fun z => o + 1 ≤ z ∧ z ≤ o + 246) M M1 := fun z hz => by
    have hz1 : ¬ (o + 1 ≤ z ∧ z ≤ o + 246) := hz
    exact (fr6 z (by omega))
  clear q3
  refine go_iret X d_CiteForge_erase_7 rfl ?_ (by omega) (by omega) ?_
  · rfl
  exact ⟨rfl, rfl, rfl, pd7, fr9⟩
def cik (WC : Int → Int) (n x : Int) : Int := if wof x = 0 then 1 else if 0 ≤ fx WC n (wof x) then 0 else if 10 ≤ n then 2 else 0
def civl (WC : Int → Int) (n x : Int) : Int := if 0 ≤ fx WC n (wof x) then 0 else 1
def cin (WC : Int → Int) (n x : Int) : Int := if 0 ≤ fx WC n (wof x) then n else n + 1
def ciw (WC : Int → Int) (n x : Int) : Int → Int := if 0 ≤ fx WC n (wof x) then WC else rset WC n (wof x)
set_option maxHeartbeats 4000000 in
set_option maxRecDepth 100000 in
theorem f_cite (l : Launch) (hl : l.stackTraces = false) (D : va_G) {sh : s_S} {M : s_M} {sz o : Int} (hc : cfx sh M o) {n m : Int} {WC L : Int → Int} (hci : civ sh M (o + 180) (o + 2) (o + 1) n m WC L) {x : Int} (hx : 0 ≤ x ∧ x < 18446744073709551616) : SpX l D y_CiteForge_cite prog_1_method_5_code 5 (some .boolean) 8 1 6 [vr o, vl x] sh M sz (fun v' sh' M' sz' => (cik WC n x) = 0 ∧ v' = some (vi (civl WC n x)) ∧ sh' = sh ∧ sz' = sz ∧ civ sh M' (o + 180) (o + 2) (o + 1) (cin WC n x) m (ciw WC n x) L ∧ fr (fun z => o + 1 ≤ z ∧ z ≤ o + 246) M M') (fun E sh' M' sz' => sh' = sh ∧ M' = M ∧ sz' = sz + 1 ∧ ((E = "java/lang/IllegalArgumentException" ∧ (cik WC n x) = 1) ∨ (E = "java/lang/IllegalStateException" ∧ (cik WC n x) = 2))) := by
  have q0 := hc.1
  have q8 : 0 ≤ o := hc.2.2.2.2.2.2.2.2
  have q4 := hc.2.2.2.2.1
  refine SpX.ofGo hl (own := "CiteForge") (nm := "cite") (by decide) rfl rfl (Nat.le_of_ble_eq_true rfl) (lv := [(0, vr o), (1, vl x)]) rfl ?_
  intro g X XX
  refine go_lload_n X d_CiteForge_cite_0 rfl rfl ?_
  refine go_cSf (st2 := [vl (wof x)]) (r := []) X k_CiteForge_102 (c_wordOf l D (by omega)) rfl rfl (by omega) (Nat.le_of_ble_eq_true rfl) d_CiteForge_cite_1 (by omega) (by omega) rfl ?_
  have hw0 := wof_rng x
  refine go_lstore_n (lv' := [(3, vl (wof x)), (0, vr o), (1, vl x)]) X d_CiteForge_cite_4 rfl (by decide) rfl ?_
  refine go_lload_n X d_CiteForge_cite_5 rfl rfl ?_
  refine go_lconst (x := 0) X d_CiteForge_cite_6 (by decide) ?_
  refine go_lcmp X (by omega) (by omega) d_CiteForge_cite_7 ?_
  have hc0 := s_cmp_rng (wof x) 0
  refine go_if_ne (tgt := 19) X d_CiteForge_cite_8 rfl (by omega) (fun hq1 => ?_) (fun hq1 => ?_)
  · skip
    have g0 : ¬ wof x = 0 := fun q => hq1 (by rw [q]; decide)
    refine go_aload_n X d_CiteForge_cite_19 rfl rfl ?_
    refine go_get (v := vr (o + 180)) X f_CiteForge_34 q0 rfl d_CiteForge_cite_20 (s_vref q4 (by omega)) ?_
    refine go_lload_n X d_CiteForge_cite_23 rfl rfl ?_
    refine go_cVf (st2 := [vi (s_b (decide (0 ≤ fx WC n (wof x))))]) (r := []) X k_CiteForge_106 (c_Citations_isCited l D hci (by omega)) hci.1 rfl rfl (by omega) (Nat.le_of_ble_eq_true rfl) d_CiteForge_cite_24 (by omega) (by omega) rfl ?_
    refine go_ifb_eq (tgt := 32) X d_CiteForge_cite_27 rfl (fun hq2 => ?_) (fun hq2 => ?_)
    · skip
      refine go_aload_n X d_CiteForge_cite_32 rfl rfl ?_
      refine go_get (v := vr (o + 180)) X f_CiteForge_34 q0 rfl d_CiteForge_cite_33 (s_vref q4 (by omega)) ?_
      refine go_cVf (st2 := [vi (s_b (decide (10 ≤ n)))]) (r := []) X k_CiteForge_110 (c_Citations_isFull l D hci) hci.1 rfl rfl (by omega) (Nat.le_of_ble_eq_true rfl) d_CiteForge_cite_36 (by omega) (by omega) rfl ?_
      refine go_ifb_eq (tgt := 50) X d_CiteForge_cite_39 rfl (fun hq3 => ?_) (fun hq3 => ?_)
      · skip
        refine go_aload_n X d_CiteForge_cite_50 rfl rfl ?_
        refine go_get (v := vr (o + 180)) X f_CiteForge_34 q0 rfl d_CiteForge_cite_51 (s_vref q4 (by omega)) ?_
        refine go_lload_n X d_CiteForge_cite_54 rfl rfl ?_
        refine go_cV (st2 := []) (r := []) X k_CiteForge_113 (c_Citations_add l D hci (by omega) (by simpa using hq3)) hci.1 rfl rfl (by omega) (Nat.le_of_ble_eq_true rfl) d_CiteForge_cite_55 (by omega) (by omega) (fun v' sh' M4 sz' hp5 => ?_)
        obtain ⟨e6, e7, e8, pd10, fr9⟩ := hp5
        subst e6
        rw [e7, e8]
        show Go g 0 0 sh M4 sz 58 [(3, vl (wof x)), (0, vr o), (1, vl x)] []
        have e11 : M4 o 3 = o + 180 := (congrFun (fr9 o (by omega)) _).trans q4
        have fr12 : fr (fun z => o + 1 ≤ z ∧ z ≤ o + 246) M M4 := fun z hz => by
          have hz1 : ¬ (o + 1 ≤ z ∧ z ≤ o + 246) := hz
          exact (fr9 z (by omega))
        clear q4
        refine go_iconst (v := 1) X d_CiteForge_cite_58 ?_
        refine go_iret X d_CiteForge_cite_59 rfl ?_ (by omega) (by omega) ?_
        · rfl
        have g1 : ¬ 0 ≤ fx WC n (wof x) := by simpa using hq2
        have g2 : ¬ 10 ≤ n := by simpa using hq3
        have e1 : civl WC n x = 1 := if_neg g1
        have e2 : cin WC n x = n + 1 := if_neg g1
        have e3 : ciw WC n x = rset WC n (wof x) := if_neg g1
        rw [e1, e2, e3]
        exact ⟨((if_neg g0).trans (if_neg g1)).trans (if_neg g2), rfl, rfl, rfl, pd10, fr12⟩
      · skip
        refine go_throw X XX x_K_IS d_CiteForge_cite_42 d_CiteForge_cite_45 d_CiteForge_cite_46 d_CiteForge_cite_49 (by omega) (by omega) (by omega) ?_
        exact ⟨rfl, rfl, rfl, Or.inr ⟨rfl, ((if_neg g0).trans (if_neg (by simpa using hq2))).trans (if_pos (by simpa using hq3))⟩⟩
    · skip
      refine go_iconst (v := 0) X d_CiteForge_cite_30 ?_
      refine go_iret X d_CiteForge_cite_31 rfl ?_ (by omega) (by omega) ?_
      · rfl
      have g1 : 0 ≤ fx WC n (wof x) := by simpa using hq2
      have e1 : civl WC n x = 0 := if_pos g1
      have e2 : cin WC n x = n := if_pos g1
      have e3 : ciw WC n x = WC := if_pos g1
      rw [e1, e2, e3]
      exact ⟨(if_neg g0).trans (if_pos g1), rfl, rfl, rfl, hci, fun z _ => rfl⟩
  · skip
    refine go_throw X XX x_K_IA d_CiteForge_cite_11 d_CiteForge_cite_14 d_CiteForge_cite_15 d_CiteForge_cite_18 (by omega) (by omega) (by omega) ?_
    exact ⟨rfl, rfl, rfl, Or.inl ⟨rfl, if_pos (s_cmp0 hq1)⟩⟩
set_option maxHeartbeats 4000000 in
set_option maxRecDepth 100000 in
theorem f_forget (l : Launch) (D : va_G) {sh : s_S} {M : s_M} {sz o : Int} (hc : cfx sh M o) {n m : Int} {WC L : Int → Int} (hci : civ sh M (o + 180) (o + 2) (o + 1) n m WC L)  : Sp l D y_CiteForge_forget prog_1_method_6_code 1 (some .int) 4 0 0 [vr o] sh M sz (fun v' sh' M' sz' => v' = some (vi n) ∧ sh' = sh ∧ sz' = sz ∧ civ sh M' (o + 180) (o + 2) (o + 1) 0 m WC L ∧ fr (fun z => o + 1 ≤ z ∧ z ≤ o + 246) M M') := by
  have q0 := hc.1
  have q8 : 0 ≤ o := hc.2.2.2.2.2.2.2.2
  have q4 := hc.2.2.2.2.1
  refine Sp.ofGo (own := "CiteForge") (nm := "forget") (by decide) rfl rfl (Nat.le_of_ble_eq_true rfl) (lv := [(0, vr o)]) rfl ?_
  intro g X
  refine go_aload_n X d_CiteForge_forget_0 rfl rfl ?_
  refine go_get (v := vr (o + 180)) X f_CiteForge_34 q0 rfl d_CiteForge_forget_1 (s_vref q4 (by omega)) ?_
  refine go_cV (st2 := []) (r := []) X k_CiteForge_117 (c_Citations_dropCitations l D hci) hci.1 rfl rfl (by omega) (Nat.le_of_ble_eq_true rfl) d_CiteForge_forget_4 (by omega) (by omega) (fun v' sh' M1 sz' hp2 => ?_)
  obtain ⟨e3, e4, e5, pd7, fr6⟩ := hp2
  subst e3
  rw [e4, e5]
  show Go g 0 0 sh M1 sz 7 [(0, vr o)] [vi n]
  have e8 : M1 o 3 = o + 180 := (congrFun (fr6 o (by omega)) _).trans q4
  have fr9 : fr (fun z => o + 1 ≤ z ∧ z ≤ o + 246) M M1 := fun z hz => by
    have hz1 : ¬ (o + 1 ≤ z ∧ z ≤ o + 246) := hz
    exact (fr6 z (by omega))
  clear q4
  refine go_iret X d_CiteForge_forget_7 rfl ?_ (by omega) (by omega) ?_
  · rfl
  exact ⟨rfl, rfl, rfl, pd7, fr9⟩
set_option maxHeartbeats 4000000 in
set_option maxRecDepth 100000 in
theorem f_depth (l : Launch) (D : va_G) {sh : s_S} {M : s_M} {sz o : Int} (hc : cfx sh M o) {nk : Int} {fk : Int → sva} (hst : stv sh M (o + 183) (o + 1) nk fk) {WN : Int → Int} (hwn : sh (o + 1) = some (.inr (.int, 10))) (hWN : M (o + 1) = WN)  : Sp l D y_CiteForge_depth prog_1_method_14_code 1 (some .int) 4 0 0 [vr o] sh M sz (fun v' sh' M' sz' => v' = some (vi nk) ∧ sh' = sh ∧ sz' = sz ∧ fr (fun z => o + 1 ≤ z ∧ z ≤ o + 246) M M') := by
  have q0 := hc.1
  have q8 : 0 ≤ o := hc.2.2.2.2.2.2.2.2
  have q5 := hc.2.2.2.2.2.1
  refine Sp.ofGo (own := "CiteForge") (nm := "depth") (by decide) rfl rfl (Nat.le_of_ble_eq_true rfl) (lv := [(0, vr o)]) rfl ?_
  intro g X
  refine go_aload_n X d_CiteForge_depth_0 rfl rfl ?_
  refine go_get (v := vr (o + 183)) X f_CiteForge_41 q0 rfl d_CiteForge_depth_1 (s_vref q5 (by omega)) ?_
  refine go_cVf (st2 := [vi nk]) (r := []) X k_CiteForge_188 (c_Stack_size l D hst hWN) hst.1 rfl rfl (by omega) (Nat.le_of_ble_eq_true rfl) d_CiteForge_depth_4 (by omega) (by omega) rfl ?_
  refine go_iret X d_CiteForge_depth_7 rfl ?_ (by omega) (by omega) ?_
  · rfl
  exact ⟨rfl, rfl, rfl, fun z _ => rfl⟩
def dek (Z : Int → Int) (f q : Int) : Int := if (0 ≤ f ∧ f < 6) ∧ 0 ≤ q ∧ q < 30 then (if 24 ≤ Z f then 2 else 0) else 1
def clk (f : Int) : Int := if 0 ≤ f ∧ f < 6 then 0 else 1
/-- the sizes of the functions -/
abbrev zok (Z : Int → Int) : Prop := ∀ f, 0 ≤ f → f < 6 → 0 ≤ Z f ∧ Z f ≤ 24
set_option maxHeartbeats 4000000 in
set_option maxRecDepth 100000 in
theorem f_define (l : Launch) (hl : l.stackTraces = false) (D : va_G) {sh : s_S} {M : s_M} {sz o : Int} (hc : cfx sh M o) {O Q Z G : Int → Int} {t1 t2 t3 : List Int} {v1 v2 : sva} (hmc : mcx sh M (o + 225) (o + 2) (o + 180) (o + 183) (o + 221) (o + 1) O Q Z G t1 t2 t3 v1 v2) {f q v : Int} (hf : -2147483648 ≤ f ∧ f < 2147483648) (hq : -2147483648 ≤ q ∧ q < 2147483648) (hv : rL v) (hZ : zok Z) : SpX l D y_CiteForge_define prog_1_method_11_code 5 (some .int) 8 1 6 [vr o, vi f, vi q, vl v] sh M sz (fun v' sh' M' sz' => (dek Z f q) = 0 ∧ v' = some (vi (Z f + 1)) ∧ sh' = sh ∧ sz' = sz ∧ mcx sh M' (o + 225) (o + 2) (o + 180) (o + 183) (o + 221) (o + 1) (rset O (f * 24 + Z f) q) (rset Q (f * 24 + Z f) (if 13 ≤ q then max v 0 else v)) (inc Z f) G t1 t2 t3 v1 v2 ∧ fr (fun z => o + 1 ≤ z ∧ z ≤ o + 246) M M') (fun E sh' M' sz' => sh' = sh ∧ M' = M ∧ sz' = sz + 1 ∧ ((E = "java/lang/IllegalArgumentException" ∧ (dek Z f q) = 1) ∨ (E = "java/lang/IllegalStateException" ∧ (dek Z f q) = 2))) := by
  have q0 := hc.1
  have q8 : 0 ≤ o := hc.2.2.2.2.2.2.2.2
  have q7 := hc.2.2.2.2.2.2.2.1
  refine SpX.ofGo hl (own := "CiteForge") (nm := "define") (by decide) rfl rfl (Nat.le_of_ble_eq_true rfl) (lv := [(0, vr o), (1, vi f), (2, vi q), (3, vl v)]) rfl ?_
  intro g X XX
  refine go_iload_n X d_CiteForge_define_0 rfl rfl ?_
  refine go_cSf (st2 := [vi (s_b (decide (0 ≤ f ∧ f < 6)))]) (r := []) X k_CiteForge_162 (c_Machine_isFunction l D (by omega)) rfl rfl (by omega) (Nat.le_of_ble_eq_true rfl) d_CiteForge_define_1 (by omega) (by omega) rfl ?_
  refine go_ifb_eq (tgt := 14) X d_CiteForge_define_4 rfl (fun hq1 => ?_) (fun hq1 => ?_)
  · skip
    simp only [decide_eq_true_eq, decide_eq_false_iff_not] at hq1
    refine go_throw X XX x_K_IA d_CiteForge_define_14 d_CiteForge_define_17 d_CiteForge_define_18 d_CiteForge_define_21 (by omega) (by omega) (by omega) ?_
    exact ⟨rfl, rfl, rfl, Or.inl ⟨rfl, if_neg (by omega)⟩⟩
  · skip
    simp only [decide_eq_true_eq, decide_eq_false_iff_not] at hq1
    refine go_iload_n X d_CiteForge_define_7 rfl rfl ?_
    refine go_cSf (st2 := [vi (s_b (decide (0 ≤ q ∧ q < 30)))]) (r := []) X k_CiteForge_165 (c_Machine_isOperation l D (by omega)) rfl rfl (by omega) (Nat.le_of_ble_eq_true rfl) d_CiteForge_define_8 (by omega) (by omega) rfl ?_
    refine go_ifb_ne (tgt := 22) X d_CiteForge_define_11 rfl (fun hq2 => ?_) (fun hq2 => ?_)
    · skip
      simp only [decide_eq_true_eq, decide_eq_false_iff_not] at hq2
      refine go_aload_n X d_CiteForge_define_22 rfl rfl ?_
      refine go_get (v := vr (o + 225)) X f_CiteForge_57 q0 rfl d_CiteForge_define_23 (s_vref q7 (by omega)) ?_
      refine go_iload_n X d_CiteForge_define_26 rfl rfl ?_
      refine go_cVf (st2 := [vi (s_b (decide (24 ≤ Z f)))]) (r := []) X k_CiteForge_168 (c_Machine_isFull l D hmc.1 (by omega) (hZ f (by omega) (by omega))) hmc.1.1 rfl rfl (by omega) (Nat.le_of_ble_eq_true rfl) d_CiteForge_define_27 (by omega) (by omega) rfl ?_
      refine go_ifb_eq (tgt := 41) X d_CiteForge_define_30 rfl (fun hq3 => ?_) (fun hq3 => ?_)
      · skip
        simp only [decide_eq_true_eq, decide_eq_false_iff_not] at hq3
        refine go_aload_n X d_CiteForge_define_41 rfl rfl ?_
        refine go_get (v := vr (o + 225)) X f_CiteForge_57 q0 rfl d_CiteForge_define_42 (s_vref q7 (by omega)) ?_
        refine go_iload_n X d_CiteForge_define_45 rfl rfl ?_
        refine go_iload_n X d_CiteForge_define_46 rfl rfl ?_
        refine go_lload_n X d_CiteForge_define_47 rfl rfl ?_
        refine go_cV (st2 := []) (r := []) X k_CiteForge_170 (c_Machine_addOperation l D hmc.1 (by omega) (hZ f (by omega) (by omega)) (by simpa using hq3) (by omega) hv) hmc.1.1 rfl rfl (by omega) (Nat.le_of_ble_eq_true rfl) d_CiteForge_define_48 (by omega) (by omega) (fun v' sh' M4 sz' hp5 => ?_)
        obtain ⟨e6, e7, e8, pd10, fr9⟩ := hp5
        subst e6
        rw [e7, e8]
        show Go g 0 0 sh M4 sz 51 [(0, vr o), (1, vi f), (2, vi q), (3, vl v)] [vi (Z f + 1)]
        have pd11 : mcx sh M4 (o + 225) (o + 2) (o + 180) (o + 183) (o + 221) (o + 1) (rset O (f * 24 + Z f) q) (rset Q (f * 24 + Z f) (if 13 ≤ q then max v 0 else v)) (inc Z f) G t1 t2 t3 v1 v2 := ⟨pd10, hmc.2.1.mv (fun z h1 h2 => ⟨rfl, fr9 z (by omega)⟩), hmc.2.2.1.mv (fun z h1 h2 => ⟨rfl, fr9 z (by omega)⟩), hmc.2.2.2.1.mv (fun z h1 h2 => ⟨rfl, fr9 z (by omega)⟩), hmc.2.2.2.2.1.mv (fun z h1 h2 => ⟨rfl, fr9 z (by omega)⟩), hmc.2.2.2.2.2.mv (fun z h1 h2 => ⟨rfl, fr9 z (by omega)⟩)⟩
        have e12 : M4 o 6 = o + 225 := (congrFun (fr9 o (by omega)) _).trans q7
        have fr13 : fr (fun z => o + 1 ≤ z ∧ z ≤ o + 246) M M4 := fun z hz => by
          have hz1 : ¬ (o + 1 ≤ z ∧ z ≤ o + 246) := hz
          exact (fr9 z (by omega))
        clear q7
        refine go_iret X d_CiteForge_define_51 rfl ?_ (by omega) (by omega) ?_
        · rfl
        exact ⟨(if_pos (by omega)).trans (if_neg hq3), rfl, rfl, rfl, pd11, fr13⟩
      · skip
        simp only [decide_eq_true_eq, decide_eq_false_iff_not] at hq3
        refine go_throw X XX x_K_IS d_CiteForge_define_33 d_CiteForge_define_36 d_CiteForge_define_37 d_CiteForge_define_40 (by omega) (by omega) (by omega) ?_
        exact ⟨rfl, rfl, rfl, Or.inr ⟨rfl, (if_pos (by omega)).trans (if_pos hq3)⟩⟩
    · skip
      simp only [decide_eq_true_eq, decide_eq_false_iff_not] at hq2
      refine go_throw X XX x_K_IA d_CiteForge_define_14 d_CiteForge_define_17 d_CiteForge_define_18 d_CiteForge_define_21 (by omega) (by omega) (by omega) ?_
      exact ⟨rfl, rfl, rfl, Or.inl ⟨rfl, if_neg (by omega)⟩⟩
set_option maxHeartbeats 4000000 in
set_option maxRecDepth 100000 in
theorem f_clear (l : Launch) (hl : l.stackTraces = false) (D : va_G) {sh : s_S} {M : s_M} {sz o : Int} (hc : cfx sh M o) {O Q Z G : Int → Int} {t1 t2 t3 : List Int} {v1 v2 : sva} (hmc : mcx sh M (o + 225) (o + 2) (o + 180) (o + 183) (o + 221) (o + 1) O Q Z G t1 t2 t3 v1 v2) {f : Int} (hf : -2147483648 ≤ f ∧ f < 2147483648) (hZ : zok Z) : SpX l D y_CiteForge_clear prog_1_method_12_code 2 (some .int) 8 1 6 [vr o, vi f] sh M sz (fun v' sh' M' sz' => (clk f) = 0 ∧ v' = some (vi (Z f)) ∧ sh' = sh ∧ sz' = sz ∧ mcx sh M' (o + 225) (o + 2) (o + 180) (o + 183) (o + 221) (o + 1) O Q (rset Z f 0) G t1 t2 t3 v1 v2 ∧ fr (fun z => o + 1 ≤ z ∧ z ≤ o + 246) M M') (fun E sh' M' sz' => sh' = sh ∧ M' = M ∧ sz' = sz + 1 ∧ ((E = "java/lang/IllegalArgumentException" ∧ (clk f) = 1))) := by
  have q0 := hc.1
  have q8 : 0 ≤ o := hc.2.2.2.2.2.2.2.2
  have q7 := hc.2.2.2.2.2.2.2.1
  refine SpX.ofGo hl (own := "CiteForge") (nm := "clear") (by decide) rfl rfl (Nat.le_of_ble_eq_true rfl) (lv := [(0, vr o), (1, vi f)]) rfl ?_
  intro g X XX
  refine go_iload_n X d_CiteForge_clear_0 rfl rfl ?_
  refine go_cSf (st2 := [vi (s_b (decide (0 ≤ f ∧ f < 6)))]) (r := []) X k_CiteForge_162 (c_Machine_isFunction l D (by omega)) rfl rfl (by omega) (Nat.le_of_ble_eq_true rfl) d_CiteForge_clear_1 (by omega) (by omega) rfl ?_
  refine go_ifb_ne (tgt := 15) X d_CiteForge_clear_4 rfl (fun hq1 => ?_) (fun hq1 => ?_)
  · skip
    simp only [decide_eq_true_eq, decide_eq_false_iff_not] at hq1
    refine go_aload_n X d_CiteForge_clear_15 rfl rfl ?_
    refine go_get (v := vr (o + 225)) X f_CiteForge_57 q0 rfl d_CiteForge_clear_16 (s_vref q7 (by omega)) ?_
    refine go_iload_n X d_CiteForge_clear_19 rfl rfl ?_
    refine go_cV (st2 := []) (r := []) X k_CiteForge_174 (c_Machine_dropOperations l D hmc.1 (by omega) (hZ f (by omega) (by omega))) hmc.1.1 rfl rfl (by omega) (Nat.le_of_ble_eq_true rfl) d_CiteForge_clear_20 (by omega) (by omega) (fun v' sh' M2 sz' hp3 => ?_)
    obtain ⟨e4, e5, e6, pd8, fr7⟩ := hp3
    subst e4
    rw [e5, e6]
    show Go g 0 0 sh M2 sz 23 [(0, vr o), (1, vi f)] [vi (Z f)]
    have pd9 : mcx sh M2 (o + 225) (o + 2) (o + 180) (o + 183) (o + 221) (o + 1) O Q (rset Z f 0) G t1 t2 t3 v1 v2 := ⟨pd8, hmc.2.1.mv (fun z h1 h2 => ⟨rfl, fr7 z (by omega)⟩), hmc.2.2.1.mv (fun z h1 h2 => ⟨rfl, fr7 z (by omega)⟩), hmc.2.2.2.1.mv (fun z h1 h2 => ⟨rfl, fr7 z (by omega)⟩), hmc.2.2.2.2.1.mv (fun z h1 h2 => ⟨rfl, fr7 z (by omega)⟩), hmc.2.2.2.2.2.mv (fun z h1 h2 => ⟨rfl, fr7 z (by omega)⟩)⟩
    have e10 : M2 o 6 = o + 225 := (congrFun (fr7 o (by omega)) _).trans q7
    have fr11 : fr (fun z => o + 1 ≤ z ∧ z ≤ o + 246) M M2 := fun z hz => by
      have hz1 : ¬ (o + 1 ≤ z ∧ z ≤ o + 246) := hz
      exact (fr7 z (by omega))
    clear q7
    refine go_iret X d_CiteForge_clear_23 rfl ?_ (by omega) (by omega) ?_
    · rfl
    exact ⟨if_pos (by omega), rfl, rfl, rfl, pd9, fr11⟩
  · skip
    simp only [decide_eq_true_eq, decide_eq_false_iff_not] at hq1
    refine go_throw X XX x_K_IA d_CiteForge_clear_7 d_CiteForge_clear_10 d_CiteForge_clear_11 d_CiteForge_clear_14 (by omega) (by omega) (by omega) ?_
    exact ⟨rfl, rfl, rfl, ⟨rfl, if_neg (by omega)⟩⟩
