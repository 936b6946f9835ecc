/-! Text's contracts over lists. -/
theorem k_Text_size (l : Launch) (D : va_G) {sh : s_S} {M : s_M} {sz a : Int} {N : Nat} {t : List Int} (h : tv sh M a N t)  : Sp l D y_Text_size prog_11_method_2_code 1 (some .int) 1 0 0 [vr a] sh M sz (pF (some (vi (t.length : Int))) sh M sz) := by
  have h0 := c_Text_size l D (sz := sz) h.1
  rw [h.2.1] at h0
  exact h0
theorem k_Text_has (l : Launch) (D : va_G) {sh : s_S} {M : s_M} {sz a : Int} {N : Nat} {t : List Int} (h : tv sh M a N t) {i : Int} (hi : -2147483648 ≤ i ∧ i < 2147483648) : Sp l D y_Text_has prog_11_method_3_code 2 (some .boolean) 1 0 0 [vr a, vi i] sh M sz (pF (some (vi (s_b (decide (0 ≤ i ∧ i < (t.length : Int)))))) sh M sz) := by
  have h0 := c_Text_has l D (sz := sz) h.1 hi
  rw [h.2.1] at h0
  exact h0
theorem k_Text_at (l : Launch) (D : va_G) {sh : s_S} {M : s_M} {sz a : Int} {N : Nat} {t : List Int} (h : tv sh M a N t) {i : Int} (hi : -2147483648 ≤ i ∧ i < 2147483648) : Sp l D y_Text_at prog_11_method_4_code 2 (some .char) 1 0 0 [vr a, vi i] sh M sz (pF (some (vi (tg t i))) sh M sz) := by
  have h0 := c_Text_at l D (sz := sz) h.1 hi
  rw [h.at i] at h0
  exact h0
theorem k_Text_isFull (l : Launch) (D : va_G) {sh : s_S} {M : s_M} {sz a : Int} {N : Nat} {t : List Int} (h : tv sh M a N t)  : Sp l D y_Text_isFull prog_11_method_5_code 1 (some .boolean) 1 0 0 [vr a] sh M sz (pF (some (vi (s_b (decide ((N : Int) ≤ (t.length : Int)))))) sh M sz) := by
  have h0 := c_Text_isFull l D (sz := sz) h.1
  rw [h.2.1] at h0
  exact h0
theorem k_Text_reset (l : Launch) (D : va_G) {sh : s_S} {M : s_M} {sz a : Int} {N : Nat} {t : List Int} (h : tv sh M a N t)  : Sp l D y_Text_reset prog_11_method_6_code 1 none 1 0 0 [vr a] sh M sz (fun v sh' M' sz' => v = none ∧ sh' = sh ∧ sz' = sz ∧ tv sh M' a N ([]) ∧ fr (fun z => z = a ∨ z = a + 1) M M') := by
  refine (c_Text_reset l D (sz := sz) h.1).mono ?_
  rintro v sh' M' sz' ⟨e1, e2, e3, e4⟩
  subst e3
  exact ⟨e1, e2, e4, h.reset.1, h.reset.2⟩
theorem k_Text_add (l : Launch) (D : va_G) {sh : s_S} {M : s_M} {sz a : Int} {N : Nat} {t : List Int} (h : tv sh M a N t) {c : Int} (hc : 0 ≤ c ∧ c < 65536) : Sp l D y_Text_add prog_11_method_7_code 2 none 1 0 0 [vr a, vi c] sh M sz (fun v sh' M' sz' => v = none ∧ sh' = sh ∧ sz' = sz ∧ tv sh M' a N (ta N t c) ∧ fr (fun z => z = a ∨ z = a + 1) M M') := by
  refine (c_Text_add l D (sz := sz) h.1 hc).mono ?_
  rintro v sh' M' sz' ⟨e1, e2, e3, e4⟩
  subst e3
  exact ⟨e1, e2, e4, (h.add hc).1, (h.add hc).2⟩
theorem p_prn_r {c : Int} (h : p_prn c = true) : 0 ≤ c ∧ c < 65536 := by
  simp only [p_prn, decide_eq_true_eq] at h
  omega
set_option maxHeartbeats 4000000 in
set_option maxRecDepth 100000 in
theorem c_Text_setToBytes (l : Launch) (D : va_G) {sh : s_S} {M : s_M} {sz a : Int} {N : Nat} {t : List Int} (h : tv sh M a N t) {x : Int} (hx : 0 ≤ x ∧ x < 18446744073709551616) (hN : 8 ≤ N) : Sp l D y_Text_setToBytes prog_11_method_10_code 5 none 2 0 0 [vr a, vl x] sh M sz (fun v sh' M' sz' => v = none ∧ sh' = sh ∧ sz' = sz ∧ tv sh M' a N (uof x) ∧ fr (fun z => z = a ∨ z = a + 1) M M') := by
  have hA0 := h
  have hln := h.len
  have hch := h.rng
  obtain ⟨⟨h1, h2, h3, h4, h5, h6, h7, h8⟩, h9, h10⟩ := h
  refine Sp.ofGo (own := "CiteForge$Text") (nm := "setToBytes") (by decide) rfl rfl (Nat.le_of_ble_eq_true rfl) (lv := [(0, vr a), (1, vl x)]) rfl ?_
  intro g X
  refine go_aload_n X d_Text_setToBytes_0 rfl rfl ?_
  refine go_iconst (v := 0) X d_Text_setToBytes_1 ?_
  refine go_put (x := 0) (v := vi 0) X f_Text_15 h1 rfl d_Text_setToBytes_2 rfl rfl rfl ?_
  generalize hM2 : m_s M a 1 0 = M1
  have e3 : M1 a 0 = a + 1 := by rw [← hM2]; exact (m_s_n (by omega)).trans h3
  have e4 : M1 a 1 = 0 := by rw [← hM2, m_s_s]
  have ht0 := hA0.reset.1
  have hf0 := hA0.reset.2
  rw [hM2] at ht0 hf0
  refine go_iconst (v := 0) X d_Text_setToBytes_5 ?_
  refine go_istore_n (lv' := [(3, vi 0), (0, vr a), (1, vl x)]) X d_Text_setToBytes_6 rfl (by decide) rfl ?_
  have loop : ∀ (fuel : Nat) (i : Int) (u : List Int) (Mx : s_M), (0 ≤ i) → (i ≤ 8) → ((u.length : Int) ≤ i) → (tv sh Mx a N u) → (fr (fun z => z = a ∨ z = a + 1) M Mx) → (it (ust x) ((8 : Int) - i).toNat i (true, u) = it (ust x) ((8 : Int) - 0).toNat 0 (true, [])) → ((8 : Int) - i).toNat < fuel → Go g 0 0 sh Mx sz 7 [(0, vr a), (1, vl x), (3, vi i)] [] := by
    intro fuel
    induction fuel with
    | zero => intro i u Mx hi hi2 hu ht hf hp hm_loop; exact absurd hm_loop (Nat.not_lt_zero _)
    | succ fuel ih_loop =>
      intro i u Mx hi hi2 hu ht hf hp hm_loop
      refine go_iload_n X d_Text_setToBytes_7 rfl rfl ?_
      refine go_bipush (v := 8) X d_Text_setToBytes_8 (by decide) ?_
      refine go_icmp_ge (tgt := 41) X d_Text_setToBytes_10 rfl (by omega) (by omega) (fun hq5 => ?_) (fun hq5 => ?_)
      · skip
        refine go_vret X d_Text_setToBytes_41 rfl (by omega) (by omega) ?_
        refine ⟨rfl, rfl, rfl, ?_, hf⟩
        unfold uof
        rw [it_fin (ust x) hp (by omega)]
        exact ht
      · skip
        refine go_lload_n X d_Text_setToBytes_13 rfl rfl ?_
        refine go_iload_n X d_Text_setToBytes_14 rfl rfl ?_
        refine go_cSf (st2 := [vi (by_ x i)]) (r := []) X k_Text_34 (c_byteOf l D (by omega) (by omega)) rfl rfl (by omega) (Nat.le_of_ble_eq_true rfl) d_Text_setToBytes_15 (by omega) (by omega) rfl ?_
        have hb0 := by_r x i
        refine go_istore (lv' := [(4, vi (by_ x i)), (0, vr a), (1, vl x), (3, vi i)]) X d_Text_setToBytes_18 (by decide) rfl ?_
        refine go_iload X d_Text_setToBytes_20 rfl ?_
        refine go_cSf (st2 := [vi (s_b (p_prn (by_ x i)))]) (r := []) X k_Text_38 (c_isPrintable l D (by omega)) rfl rfl (by omega) (Nat.le_of_ble_eq_true rfl) d_Text_setToBytes_22 (by omega) (by omega) rfl ?_
        refine go_ifb_ne (tgt := 29) X d_Text_setToBytes_25 rfl (fun hq6 => ?_) (fun hq6 => ?_)
        · skip
          refine go_aload_n X d_Text_setToBytes_29 rfl rfl ?_
          refine go_iload X d_Text_setToBytes_30 rfl ?_
          refine go_cV (st2 := []) (r := []) X k_Text_42 (k_Text_add l D ht (by omega)) h1 rfl rfl (by omega) (Nat.le_of_ble_eq_true rfl) d_Text_setToBytes_32 (by omega) (by omega) (fun v sh' M7 sz' hp8 => ?_)
          obtain ⟨e9, e10, e11, tv12, fr13⟩ := hp8
          subst e9
          rw [e10, e11]
          show Go g 0 0 sh M7 sz 35 [(4, vi (by_ x i)), (0, vr a), (1, vl x), (3, vi i)] []
          have htn : tv sh M7 a N (u ++ [by_ x i]) := by
            have e0 : ta N u (by_ x i) = u ++ [by_ x i] := if_pos (by omega)
            rw [← e0]; exact tv12
          have hfn : fr (fun z => z = a ∨ z = a + 1) M M7 := fun z hz => (fr13 z hz).trans (hf z hz)
          have hn := it_nxt (ust x) (s' := (true, u ++ [by_ x i])) hp (by omega) (by simp [ust, hq6])
          refine go_iinc (v := 1) (x := i) (lv' := [(3, vi (i + 1)), (4, vi (by_ x i)), (0, vr a), (1, vl x)]) X d_Text_setToBytes_35 rfl (by decide) rfl ?_
          refine go_goto (tgt := 7) X d_Text_setToBytes_38 rfl ?_
          refine go_lv (lv' := [(0, vr a), (1, vl x), (3, vi (i + 1))]) X [2, 3, 0] rfl ?_
          exact ih_loop (i + 1) (u ++ [by_ x i]) M7 (by omega) (by omega) (by simp only [List.length_append, List.length_cons, List.length_nil]; omega) htn hfn hn (by omega)
        · skip
          refine go_vret X d_Text_setToBytes_28 rfl (by omega) (by omega) ?_
          refine ⟨rfl, rfl, rfl, ?_, hf⟩
          unfold uof
          rw [it_stop (ust x) (s' := (false, u)) hp (by omega) (by simp [ust, hq6]) (fun j => if_neg (show ¬ false = true by decide))]
          exact ht
  refine go_lv (lv' := [(0, vr a), (1, vl x), (3, vi 0)]) X [1, 2, 0] rfl ?_
  exact loop _ 0 ([]) M1 (by omega) (by omega) (by decide) ht0 hf0 rfl (Nat.lt_succ_self _)
/-- a text as a word: going on (0), none (2) -/
def ast_ (t : List Int) (i : Int) (s : Int × Int) : Int × Int := if s.1 = 0 then (if p_wc (tg t i) = true then (0, s.2 + p_low (tg t i) * pow8 i) else (2, 0)) else s
def aof (t : List Int) : Int := if 8 < t.length then 0 else (it (ast_ t) ((t.length : Int) - 0).toNat 0 (0, 0)).2
theorem p_wc_r {c : Int} (h : p_wc c = true) : 0 ≤ c ∧ c < 256 := by
  simp only [p_wc, p_let, p_sml, p_cap, p_dig, Bool.or_eq_true, decide_eq_true_eq] at h
  omega
set_option maxHeartbeats 4000000 in
set_option maxRecDepth 100000 in
theorem c_Text_asWord (l : Launch) (D : va_G) {sh : s_S} {M : s_M} {sz a : Int} {N : Nat} {t : List Int} (h : tv sh M a N t) : Sp l D y_Text_asWord prog_11_method_14_code 4 (some .long) 3 0 0 [vr a] sh M sz (pF (some (vl (aof t))) sh M sz) := by
  have hln := h.len
  have hch := h.rng
  obtain ⟨⟨h1, h2, h3, h4, h5, h6, h7, h8⟩, h9, h10⟩ := h
  refine Sp.ofGo (own := "CiteForge$Text") (nm := "asWord") (by decide) rfl rfl (Nat.le_of_ble_eq_true rfl) (lv := [(0, vr a)]) rfl ?_
  intro g X
  refine go_aload_n X d_Text_asWord_0 rfl rfl ?_
  refine go_get (v := vi (t.length : Int)) X f_Text_15 h1 rfl d_Text_asWord_1 (congrArg (s_v .int) h9) ?_
  refine go_bipush (v := 8) X d_Text_asWord_4 (by decide) ?_
  refine go_icmp_le (tgt := 11) X d_Text_asWord_6 rfl (by omega) (by omega) (fun hq1 => ?_) (fun hq1 => ?_)
  · skip
    refine go_lconst (x := 0) X d_Text_asWord_11 (by decide) ?_
    refine go_lstore_n (lv' := [(1, vl 0), (0, vr a)]) X d_Text_asWord_12 rfl (by decide) rfl ?_
    refine go_iconst (v := 0) X d_Text_asWord_13 ?_
    refine go_istore_n (lv' := [(3, vi 0), (1, vl 0), (0, vr a)]) X d_Text_asWord_14 rfl (by decide) rfl ?_
    have loop : ∀ (fuel : Nat) (i : Int) (w : Int), (0 ≤ i) → (i ≤ t.length) → (0 ≤ w ∧ w < pow8 i) → (it (ast_ t) ((t.length : Int) - i).toNat i (0, w) = it (ast_ t) ((t.length : Int) - 0).toNat 0 (0, 0)) → ((t.length : Int) - i).toNat < fuel → Go g 0 0 sh M sz 15 [(0, vr a), (1, vl w), (3, vi i)] [] := by
      intro fuel
      induction fuel with
      | zero => intro i w hi hi2 hw hp hm_loop; exact absurd hm_loop (Nat.not_lt_zero _)
      | succ fuel ih_loop =>
        intro i w hi hi2 hw hp hm_loop
        refine go_iload_n X d_Text_asWord_15 rfl rfl ?_
        refine go_aload_n X d_Text_asWord_16 rfl rfl ?_
        refine go_get (v := vi (t.length : Int)) X f_Text_15 h1 rfl d_Text_asWord_17 (congrArg (s_v .int) h9) ?_
        refine go_icmp_ge (tgt := 61) X d_Text_asWord_20 rfl (by omega) (by omega) (fun hq2 => ?_) (fun hq2 => ?_)
        · skip
          refine go_lload_n X d_Text_asWord_61 rfl rfl ?_
          refine go_lret X d_Text_asWord_62 rfl (by omega) (by omega) ?_
          refine ⟨?_, rfl, rfl, rfl⟩
          unfold aof
          rw [if_neg (by omega), it_fin (ast_ t) hp (by omega)]
        · skip
          refine go_aload_n X d_Text_asWord_23 rfl rfl ?_
          refine go_get (v := vr (a + 1)) X f_Text_9 h1 rfl d_Text_asWord_24 (s_varr h3 (by omega)) ?_
          refine go_iload_n X d_Text_asWord_27 rfl rfl ?_
          refine go_cald X h2 (by omega) (by omega) d_Text_asWord_28 ?_
          have hc0 := hch i
          refine go_top (v' := vi (tg t i)) X (by rw [h10 i (by omega) (by omega)]) ?_
          refine go_cSf (st2 := [vi (s_b (p_wc (tg t i)))]) (r := []) X k_Text_50 (c_isWordCharacter l D (by omega)) rfl rfl (by omega) (Nat.le_of_ble_eq_true rfl) d_Text_asWord_29 (by omega) (by omega) rfl ?_
          refine go_ifb_ne (tgt := 37) X d_Text_asWord_32 rfl (fun hq3 => ?_) (fun hq3 => ?_)
          · skip
            have hb0 := p_wc_r hq3
            have hb1 := p_low_b hb0
            refine go_lload_n X d_Text_asWord_37 rfl rfl ?_
            refine go_aload_n X d_Text_asWord_38 rfl rfl ?_
            refine go_get (v := vr (a + 1)) X f_Text_9 h1 rfl d_Text_asWord_39 (s_varr h3 (by omega)) ?_
            refine go_iload_n X d_Text_asWord_42 rfl rfl ?_
            refine go_cald X h2 (by omega) (by omega) d_Text_asWord_43 ?_
            have hc0 := hch i
            refine go_top (v' := vi (tg t i)) X (by rw [h10 i (by omega) (by omega)]) ?_
            refine go_cSf (st2 := [vi (p_low (tg t i)), vl w]) (r := [vl w]) X k_Text_53 (c_smallOf l D (by omega)) rfl rfl (by omega) (Nat.le_of_ble_eq_true rfl) d_Text_asWord_44 (by omega) (by omega) rfl ?_
            refine go_i2l X d_Text_asWord_47 (by omega) ?_
            refine go_bipush (v := 8) X d_Text_asWord_48 (by decide) ?_
            refine go_iload_n X d_Text_asWord_50 rfl rfl ?_
            refine go_imul X d_Text_asWord_51 ?_
            refine go_lshl (z := (p_low (tg t i)) * pow8 i) X d_Text_asWord_52 (l_shl (by omega) (by omega)) ?_
            refine go_lor (z := w + (p_low (tg t i)) * pow8 i) X d_Text_asWord_53 (l_or (by omega) (by omega) (by omega)) ?_
            refine go_lstore_n (lv' := [(1, vl (w + (p_low (tg t i)) * pow8 i)), (0, vr a), (3, vi i)]) X d_Text_asWord_54 rfl (by decide) rfl ?_
            have hn := it_nxt (ast_ t) (s' := (0, w + p_low (tg t i) * pow8 i)) hp (by omega) (by simp [ast_, hq3])
            refine go_iinc (v := 1) (x := i) (lv' := [(3, vi (i + 1)), (1, vl (w + (p_low (tg t i)) * pow8 i)), (0, vr a)]) X d_Text_asWord_55 rfl (by decide) rfl ?_
            refine go_goto (tgt := 15) X d_Text_asWord_58 rfl ?_
            refine go_lv (lv' := [(0, vr a), (1, vl (w + (p_low (tg t i)) * pow8 i)), (3, vi (i + 1))]) X [2, 1, 0] rfl ?_
            exact ih_loop (i + 1) (w + (p_low (tg t i)) * pow8 i) (by omega) (by omega) (pw_next hw hb1 (by omega)) hn (by omega)
          · skip
            refine go_lconst (x := 0) X d_Text_asWord_35 (by decide) ?_
            refine go_lret X d_Text_asWord_36 rfl (by omega) (by omega) ?_
            refine ⟨?_, rfl, rfl, rfl⟩
            unfold aof
            rw [if_neg (by omega), it_stop (ast_ t) (s' := (2, 0)) hp (by omega) (by simp [ast_, hq3]) (fun j => if_neg (show ¬ (2 : Int) = 0 by decide))]
    refine go_lv (lv' := [(0, vr a), (1, vl 0), (3, vi 0)]) X [2, 1, 0] rfl ?_
    exact loop _ 0 0 (by omega) (by omega) (by decide) rfl (Nat.lt_succ_self _)
  · skip
    refine go_lconst (x := 0) X d_Text_asWord_9 (by decide) ?_
    refine go_lret X d_Text_asWord_10 rfl (by omega) (by omega) ?_
    refine ⟨?_, rfl, rfl, rfl⟩
    unfold aof
    rw [if_pos (by omega)]
/-- how two texts stand: the first difference, or that of the lengths -/
def gst (t u : List Int) (i : Int) (s : Bool × Int) : Bool × Int := if s.1 = true then (if tg t i = tg u i then s else (false, tg t i - tg u i)) else s
def gof (t u : List Int) : Int := (it (gst t u) (min (t.length : Int) u.length - 0).toNat 0 (true, (t.length : Int) - u.length)).2
set_option maxHeartbeats 4000000 in
set_option maxRecDepth 100000 in
theorem c_Text_against (l : Launch) (D : va_G) {sh : s_S} {M : s_M} {sz a b : Int} {N K : Nat} {t u : List Int} (h : tv sh M a N t) (h' : tv sh M b K u) : Sp l D y_Text_against prog_11_method_13_code 4 (some .int) 2 0 0 [vr a, vr b] sh M sz (pF (some (vi (gof t u))) sh M sz) := by
  have hch := h.rng
  have hch' := h'.rng
  have hln := h.len
  have hln' := h'.len
  obtain ⟨⟨h1, h2, h3, h4, h5, h6, h7, h8⟩, h9, h10⟩ := h
  obtain ⟨⟨p1, p2, p3, p4, p5, p6, p7, p8⟩, p9, p10⟩ := h'
  refine Sp.ofGo (own := "CiteForge$Text") (nm := "against") (by decide) rfl rfl (Nat.le_of_ble_eq_true rfl) (lv := [(0, vr a), (1, vr b)]) rfl ?_
  intro g X
  refine go_aload_n X d_Text_against_0 rfl rfl ?_
  refine go_get (v := vi (t.length : Int)) X f_Text_15 h1 rfl d_Text_against_1 (congrArg (s_v .int) h9) ?_
  refine go_aload_n X d_Text_against_4 rfl rfl ?_
  refine go_get (v := vi (u.length : Int)) X f_Text_15 p1 rfl d_Text_against_5 (congrArg (s_v .int) p9) ?_
  refine go_mmin X w_mmin_Text_25 w_mmin_s w_imath w_mmin_c (by omega) (by omega) (by omega) (by omega) (by omega) (Nat.le_of_ble_eq_true rfl) d_Text_against_8 ?_
  refine go_istore_n (lv' := [(2, vi (min (t.length : Int) (u.length : Int))), (0, vr a), (1, vr b)]) X d_Text_against_11 rfl (by decide) rfl ?_
  refine go_iconst (v := 0) X d_Text_against_12 ?_
  refine go_istore_n (lv' := [(3, vi 0), (2, vi (min (t.length : Int) (u.length : Int))), (0, vr a), (1, vr b)]) X d_Text_against_13 rfl (by decide) rfl ?_
  have loop : ∀ (fuel : Nat) (i : Int), (0 ≤ i) → (i ≤ min (t.length : Int) (u.length : Int)) → (it (gst t u) (min (t.length : Int) (u.length : Int) - i).toNat i (true, (t.length : Int) - u.length) = it (gst t u) (min (t.length : Int) (u.length : Int) - 0).toNat 0 (true, (t.length : Int) - u.length)) → (min (t.length : Int) (u.length : Int) - i).toNat < fuel → Go g 0 0 sh M sz 14 [(0, vr a), (1, vr b), (2, vi (min (t.length : Int) (u.length : Int))), (3, vi i)] [] := by
    intro fuel
    induction fuel with
    | zero => intro i hi hi2 hp hm_loop; exact absurd hm_loop (Nat.not_lt_zero _)
    | succ fuel ih_loop =>
      intro i hi hi2 hp hm_loop
      refine go_iload_n X d_Text_against_14 rfl rfl ?_
      refine go_iload_n X d_Text_against_15 rfl rfl ?_
      refine go_icmp_ge (tgt := 54) X d_Text_against_16 rfl (by omega) (by omega) (fun hq1 => ?_) (fun hq1 => ?_)
      · skip
        refine go_aload_n X d_Text_against_54 rfl rfl ?_
        refine go_get (v := vi (t.length : Int)) X f_Text_15 h1 rfl d_Text_against_55 (congrArg (s_v .int) h9) ?_
        refine go_aload_n X d_Text_against_58 rfl rfl ?_
        refine go_get (v := vi (u.length : Int)) X f_Text_15 p1 rfl d_Text_against_59 (congrArg (s_v .int) p9) ?_
        refine go_isub X d_Text_against_62 ?_
        refine go_iret X d_Text_against_63 rfl ?_ (by omega) (by omega) ?_
        · rfl
        · refine ⟨?_, rfl, rfl, rfl⟩
          unfold gof
          rw [it_fin (gst t u) hp (by omega)]
      · skip
        refine go_aload_n X d_Text_against_19 rfl rfl ?_
        refine go_get (v := vr (a + 1)) X f_Text_9 h1 rfl d_Text_against_20 (s_varr h3 (by omega)) ?_
        refine go_iload_n X d_Text_against_23 rfl rfl ?_
        refine go_cald X h2 (by omega) (by omega) d_Text_against_24 ?_
        have hc0 := hch i
        refine go_top (v' := vi (tg t i)) X (by rw [h10 i (by omega) (by omega)]) ?_
        refine go_aload_n X d_Text_against_25 rfl rfl ?_
        refine go_get (v := vr (b + 1)) X f_Text_9 p1 rfl d_Text_against_26 (s_varr p3 (by omega)) ?_
        refine go_iload_n X d_Text_against_29 rfl rfl ?_
        refine go_cald X p2 (by omega) (by omega) d_Text_against_30 ?_
        have hc0 := hch' i
        refine go_top (v' := vi (tg u i)) X (by rw [p10 i (by omega) (by omega)]) ?_
        refine go_icmp_eq (tgt := 48) X d_Text_against_31 rfl (by omega) (by omega) (fun hq2 => ?_) (fun hq2 => ?_)
        · skip
          have hn := it_nxt (gst t u) (s' := (true, (t.length : Int) - u.length)) hp (by omega) (by simp [gst, hq2])
          refine go_iinc (v := 1) (x := i) (lv' := [(3, vi (i + 1)), (0, vr a), (1, vr b), (2, vi (min (t.length : Int) (u.length : Int)))]) X d_Text_against_48 rfl (by decide) rfl ?_
          refine go_goto (tgt := 14) X d_Text_against_51 rfl ?_
          refine go_lv (lv' := [(0, vr a), (1, vr b), (2, vi (min (t.length : Int) (u.length : Int))), (3, vi (i + 1))]) X [1, 2, 3, 0] rfl ?_
          exact ih_loop (i + 1) (by omega) (by omega) hn (by omega)
        · skip
          refine go_aload_n X d_Text_against_34 rfl rfl ?_
          refine go_get (v := vr (a + 1)) X f_Text_9 h1 rfl d_Text_against_35 (s_varr h3 (by omega)) ?_
          refine go_iload_n X d_Text_against_38 rfl rfl ?_
          refine go_cald X h2 (by omega) (by omega) d_Text_against_39 ?_
          have hc0 := hch i
          refine go_top (v' := vi (tg t i)) X (by rw [h10 i (by omega) (by omega)]) ?_
          refine go_aload_n X d_Text_against_40 rfl rfl ?_
          refine go_get (v := vr (b + 1)) X f_Text_9 p1 rfl d_Text_against_41 (s_varr p3 (by omega)) ?_
          refine go_iload_n X d_Text_against_44 rfl rfl ?_
          refine go_cald X p2 (by omega) (by omega) d_Text_against_45 ?_
          have hc0 := hch' i
          refine go_top (v' := vi (tg u i)) X (by rw [p10 i (by omega) (by omega)]) ?_
          refine go_isub X d_Text_against_46 ?_
          refine go_iret X d_Text_against_47 rfl ?_ (by omega) (by omega) ?_
          · rfl
          · refine ⟨?_, rfl, rfl, rfl⟩
            unfold gof
            rw [it_stop (gst t u) (s' := (false, tg t i - tg u i)) hp (by omega) (by simp [gst, hq2]) (fun j => if_neg (show ¬ false = true by decide))]
  refine go_lv (lv' := [(0, vr a), (1, vr b), (2, vi (min (t.length : Int) (u.length : Int))), (3, vi 0)]) X [2, 3, 1, 0] rfl ?_
  exact loop _ 0 (by omega) (by omega) rfl (Nat.lt_succ_self _)
