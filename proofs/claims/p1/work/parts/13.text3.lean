/-! Text: copying. -/
theorem tg_take {u : List Int} {n : Nat} {i : Int} (h : i < n) : tg (u.take n) i = tg u i := by
  unfold tg
  split
  · rw [List.getD_eq_getElem?_getD, List.getD_eq_getElem?_getD, List.getElem?_take, if_pos (by omega)]
  · rfl
theorem tg_drop {u : List Int} {n : Nat} {i : Int} (h : 0 ≤ i) : tg (u.drop n) i = tg u (n + i) := by
  unfold tg
  rw [if_pos h, if_pos (by omega), List.getD_eq_getElem?_getD, List.getD_eq_getElem?_getD, List.getElem?_drop]
  congr 2
  omega
theorem tg_append {t u : List Int} {i : Int} : tg (t ++ u) i = if i < t.length then tg t i else tg u (i - t.length) := by
  unfold tg
  by_cases h0 : 0 ≤ i
  · by_cases h1 : i < t.length
    · rw [if_pos h0, if_pos h1, if_pos h0, List.getD_eq_getElem?_getD, List.getD_eq_getElem?_getD, List.getElem?_append_left (by omega)]
    · rw [if_pos h0, if_neg h1, if_pos (by omega), List.getD_eq_getElem?_getD, List.getD_eq_getElem?_getD, List.getElem?_append_right (by omega)]
      congr 2
      omega
  · by_cases h1 : i < t.length
    · rw [if_neg h0, if_pos h1, if_neg h0]
    · omega
theorem tv.off {sh : s_S} {M : s_M} {a b : Int} {N K : Nat} {t u : List Int} (ha : tv sh M a N t) (hb : tv sh M b K u) : a ≠ b + 1 := by
  intro e
  have h1 := ha.1.1
  rw [e, hb.1.2.1] at h1
  cases h1
/-- m characters of u from b on -/
def sl (u : List Int) (b m : Int) : List Int := (u.drop b.toNat).take m.toNat
theorem sl_len {u : List Int} {b m : Int} (h0 : 0 ≤ b) (h1 : b + m ≤ u.length) : (sl u b m).length = m.toNat := by
  unfold sl
  rw [List.length_take, List.length_drop]
  omega
theorem tg_sl {u : List Int} {b m i : Int} (h0 : 0 ≤ b) (hi : 0 ≤ i) (hm : i < m) : tg (sl u b m) i = tg u (b + i) := by
  unfold sl
  rw [tg_take (by omega), tg_drop hi]
  congr 1
  omega
theorem tv.setTo {sh : s_S} {M : s_M} {a b : Int} {N K : Nat} {t u : List Int} (ha : tv sh M a N t) (hb : tv sh M b K u) (hne : a ≠ b) : tv sh (m_cp (m_s M a 1 (min (u.length : Int) N)) (a + 1) 0 (b + 1) 0 (min (u.length : Int) N)) a N (u.take N) ∧ fr (fun z => z = a ∨ z = a + 1) M (m_cp (m_s M a 1 (min (u.length : Int) N)) (a + 1) 0 (b + 1) 0 (min (u.length : Int) N)) := by
  have o1 := ha.off hb
  have o2 := hb.off ha
  obtain ⟨⟨q1, q2, q3, q4, q5, q6, q7, q8⟩, q9, q10⟩ := ha
  obtain ⟨⟨p1, p2, p3, p4, p5, p6, p7, p8⟩, p9, p10⟩ := hb
  refine ⟨⟨⟨q1, q2, ?_, ?_, ?_, ?_, q7, q8⟩, ?_, ?_⟩, ?_⟩
  · rw [m_cp_a (by omega), m_s_n (by omega)]; exact q3
  · rw [m_cp_a (by omega), m_s_s]; omega
  · rw [m_cp_a (by omega), m_s_s]; omega
  · intro i
    unfold m_cp
    split
    · rw [m_s_n (by omega)]; exact p6 _
    · rw [m_s_n (by omega)]; exact q6 i
  · rw [m_cp_a (by omega), m_s_s, List.length_take]; omega
  · intro i hi0 hi1
    rw [List.length_take] at hi1
    unfold m_cp
    rw [if_pos (by omega), m_s_n (by omega), tg_take (by omega)]
    have e : (0 : Int) + (i - 0) = i := by omega
    rw [e]
    exact p10 i hi0 (by omega)
  · intro z hz
    rw [m_cp_a (by omega), m_s_a (by omega)]
theorem tv.addPart {sh : s_S} {M : s_M} {a b : Int} {N K : Nat} {t u : List Int} {f m : Int} (ha : tv sh M a N t) (hb : tv sh M b K u) (hne : a ≠ b) (h0 : 0 ≤ f) (hm : 0 ≤ m) (h1 : f + m ≤ u.length) (h2 : (t.length : Int) + m ≤ N) : tv sh (m_s (m_cp M (a + 1) t.length (b + 1) f m) a 1 (t.length + m)) a N (t ++ sl u f m) ∧ fr (fun z => z = a ∨ z = a + 1) M (m_s (m_cp M (a + 1) t.length (b + 1) f m) a 1 (t.length + m)) := by
  have o1 := ha.off hb
  have o2 := hb.off ha
  obtain ⟨⟨q1, q2, q3, q4, q5, q6, q7, q8⟩, q9, q10⟩ := ha
  obtain ⟨⟨p1, p2, p3, p4, p5, p6, p7, p8⟩, p9, p10⟩ := hb
  have e0 := sl_len (u := u) (b := f) (m := m) h0 h1
  refine ⟨⟨⟨q1, q2, ?_, ?_, ?_, ?_, q7, q8⟩, ?_, ?_⟩, ?_⟩
  · rw [m_s_n (by omega), m_cp_a (by omega)]; exact q3
  · rw [m_s_s]; omega
  · rw [m_s_s]; omega
  · intro i
    rw [m_s_n (by omega)]
    unfold m_cp
    split
    · exact p6 _
    · exact q6 i
  · rw [m_s_s, List.length_append, e0]; omega
  · intro i hi0 hi1
    rw [List.length_append, e0] at hi1
    rw [m_s_n (by omega), tg_append]
    unfold m_cp
    by_cases hi : i < t.length
    · rw [if_neg (by omega), if_pos hi]
      exact q10 i hi0 hi
    · rw [if_pos (by omega), if_neg hi, tg_sl h0 (by omega) (by omega)]
      exact p10 _ (by omega) (by omega)
  · intro z hz
    rw [m_s_a (by omega), m_cp_a (by omega)]
theorem tv.indent {sh : s_S} {M : s_M} {a : Int} {N : Nat} {t : List Int} {i : Int} (ha : tv sh M a N t) (h0 : 1 ≤ i) (h1 : i < t.length) : tv sh (m_s (m_s (m_s (m_cp M (a + 1) 2 (a + 1) (i + 1) (t.length - i - 1)) (a + 1) 0 32) (a + 1) 1 32) a 1 (t.length - i - 1 + 2)) a N (32 :: 32 :: t.drop (i + 1).toNat) ∧ fr (fun z => z = a ∨ z = a + 1) M (m_s (m_s (m_s (m_cp M (a + 1) 2 (a + 1) (i + 1) (t.length - i - 1)) (a + 1) 0 32) (a + 1) 1 32) a 1 (t.length - i - 1 + 2)) := by
  obtain ⟨⟨q1, q2, q3, q4, q5, q6, q7, q8⟩, q9, q10⟩ := ha
  refine ⟨⟨⟨q1, q2, ?_, ?_, ?_, ?_, q7, q8⟩, ?_, ?_⟩, ?_⟩
  · rw [m_s_n (by omega), m_s_n (by omega), m_s_n (by omega), m_cp_a (by omega)]; exact q3
  · rw [m_s_s]; omega
  · rw [m_s_s]; omega
  · intro j
    rw [m_s_n (by omega)]
    by_cases j1 : j = 1
    · rw [j1, m_s_s]; omega
    · rw [m_s_n (by omega)]
      by_cases j0 : j = 0
      · rw [j0, m_s_s]; omega
      · rw [m_s_n (by omega)]
        unfold m_cp
        split
        · exact q6 _
        · exact q6 j
  · rw [m_s_s]
    simp only [List.length_cons, List.length_drop]
    omega
  · intro j hj0 hj1
    simp only [List.length_cons, List.length_drop] at hj1
    rw [m_s_n (by omega)]
    by_cases j1 : j = 1
    · rw [j1, m_s_s]; rfl
    · rw [m_s_n (by omega)]
      by_cases j0 : j = 0
      · rw [j0, m_s_s]; rfl
      · rw [m_s_n (by omega)]
        unfold m_cp
        rw [if_pos (by omega)]
        have e1 : tg (32 :: 32 :: t.drop (i + 1).toNat) j = tg (t.drop (i + 1).toNat) (j - 2) := by
          have e2 := tg_append (t := [32, 32]) (u := t.drop (i + 1).toNat) (i := j)
          rw [if_neg (by simp only [List.length_cons, List.length_nil]; omega)] at e2
          exact e2
        rw [e1, tg_drop (by omega), q10 _ (by omega) (by omega)]
        congr 1
        omega
  · intro z hz
    rw [m_s_a (by omega), m_s_a (by omega), m_s_a (by omega), m_cp_a (by omega)]
set_option maxHeartbeats 4000000 in
set_option maxRecDepth 100000 in
theorem c_Text_setTo (l : Launch) (D : va_G) {sh : s_S} {M : s_M} {sz a b : Int} {N K : Nat} {t u : List Int} (h : tv sh M a N t) (h' : tv sh M b K u) (hne : a ≠ b) : Sp l D y_Text_setTo prog_11_method_9_code 2 none 2 0 0 [vr a, vr b] sh M sz (fun v sh' M' sz' => v = none ∧ sh' = sh ∧ sz' = sz ∧ tv sh M' a N (u.take N) ∧ fr (fun z => z = a ∨ z = a + 1) M M') := by
  have hln := h.len
  have hln' := h'.len
  have ho1 := h.off h'
  have ho2 := h'.off h
  have hA0 := h
  have hB0 := h'
  obtain ⟨⟨h1, h2, h3, h4, h5, h6, h7, h8⟩, h9, h10⟩ := h
  obtain ⟨⟨p1, p2, p3, p4, p5, p6, p7, p8⟩, p9, p10⟩ := h'
  refine Sp.ofGo (own := "CiteForge$Text") (nm := "setTo") (by decide) rfl rfl (Nat.le_of_ble_eq_true rfl) (lv := [(0, vr a), (1, vr b)]) rfl ?_
  intro g X
  refine go_aload_n X d_Text_setTo_0 rfl rfl ?_
  refine go_aload_n X d_Text_setTo_1 rfl rfl ?_
  refine go_get (v := vi (u.length : Int)) X f_Text_15 p1 rfl d_Text_setTo_2 (congrArg (s_v .int) p9) ?_
  refine go_aload_n X d_Text_setTo_5 rfl rfl ?_
  refine go_get (v := vr (a + 1)) X f_Text_9 h1 rfl d_Text_setTo_6 (s_varr h3 (by omega)) ?_
  refine go_alen X h2 (by simp) d_Text_setTo_9 ?_
  refine go_mmin X w_mmin_Text_25 w_mmin_s w_imath w_mmin_c (by omega) (by omega) (by omega) (by omega) (by omega) (Nat.le_of_ble_eq_true rfl) d_Text_setTo_10 ?_
  refine go_put (x := (min (u.length : Int) N)) (v := vi (min (u.length : Int) N)) X f_Text_15 h1 rfl d_Text_setTo_13 rfl rfl rfl ?_
  generalize hM2 : m_s M a 1 (min (u.length : Int) N) = M1
  have e3 : M1 a 0 = a + 1 := by rw [← hM2]; exact (m_s_n (by omega)).trans h3
  have e4 : M1 b 0 = b + 1 := by rw [← hM2]; exact (m_s_n (by omega)).trans p3
  have e5 : M1 b 1 = (u.length : Int) := by rw [← hM2]; exact (m_s_n (by omega)).trans p9
  have e6 : M1 a 1 = min (u.length : Int) N := by rw [← hM2, m_s_s]
  refine go_aload_n X d_Text_setTo_16 rfl rfl ?_
  refine go_get (v := vr (b + 1)) X f_Text_9 p1 rfl d_Text_setTo_17 (s_varr e4 (by omega)) ?_
  refine go_iconst (v := 0) X d_Text_setTo_20 ?_
  refine go_aload_n X d_Text_setTo_21 rfl rfl ?_
  refine go_get (v := vr (a + 1)) X f_Text_9 h1 rfl d_Text_setTo_22 (s_varr e3 (by omega)) ?_
  refine go_iconst (v := 0) X d_Text_setTo_25 ?_
  refine go_aload_n X d_Text_setTo_26 rfl rfl ?_
  refine go_get (v := vi (min (u.length : Int) N)) X f_Text_15 h1 rfl d_Text_setTo_27 (congrArg (s_v .int) e6) ?_
  refine go_copyc X w_ac_Text_28 w_ac2 w_ac3 w_ac4 p2 h2 (by omega) (by omega) (by omega) (by omega) (by omega) (by omega) (by omega) (by intro i; rw [← hM2, m_s_n (by omega)]; exact p6 i) (by omega) (Nat.le_of_ble_eq_true rfl) d_Text_setTo_30 ?_
  generalize hM8 : m_cp M1 (a + 1) 0 (b + 1) 0 (min (u.length : Int) N) = M7
  have e9 : M7 a 0 = a + 1 := by rw [← hM8]; exact (congrFun (m_cp_a (by omega)) _).trans e3
  have e10 : M7 b 0 = b + 1 := by rw [← hM8]; exact (congrFun (m_cp_a (by omega)) _).trans e4
  have e11 : M7 b 1 = (u.length : Int) := by rw [← hM8]; exact (congrFun (m_cp_a (by omega)) _).trans e5
  have e12 : M7 a 1 = min (u.length : Int) N := by rw [← hM8]; exact (congrFun (m_cp_a (by omega)) _).trans e6
  refine go_vret X d_Text_setTo_33 rfl (by omega) (by omega) ?_
  have hz := hA0.setTo hB0 hne
  rw [hM2, hM8] at hz
  exact ⟨rfl, rfl, rfl, hz.1, hz.2⟩
set_option maxHeartbeats 4000000 in
set_option maxRecDepth 100000 in
theorem c_Text_addPart (l : Launch) (D : va_G) {sh : s_S} {M : s_M} {sz a b : Int} {N K : Nat} {t u : List Int} (h : tv sh M a N t) (h' : tv sh M b K u) (hne : a ≠ b) {f e : Int} (hf : 0 ≤ f ∧ f < 2147483648) (he : 0 ≤ e ∧ e < 2147483648) : Sp l D y_Text_addPart prog_11_method_8_code 7 none 2 0 0 [vr a, vr b, vi f, vi e] sh M sz (fun v sh' M' sz' => v = none ∧ sh' = sh ∧ sz' = sz ∧ tv sh M' a N (t ++ sl u (max f 0) (min (min e (u.length : Int) - max f 0) ((N : Int) - t.length))) ∧ fr (fun z => z = a ∨ z = a + 1) M M') := by
  have hln := h.len
  have hln' := h'.len
  have ho1 := h.off h'
  have ho2 := h'.off h
  have hA0 := h
  have hB0 := h'
  obtain ⟨⟨h1, h2, h3, h4, h5, h6, h7, h8⟩, h9, h10⟩ := h
  obtain ⟨⟨p1, p2, p3, p4, p5, p6, p7, p8⟩, p9, p10⟩ := h'
  refine Sp.ofGo (own := "CiteForge$Text") (nm := "addPart") (by decide) rfl rfl (Nat.le_of_ble_eq_true rfl) (lv := [(0, vr a), (1, vr b), (2, vi f), (3, vi e)]) rfl ?_
  intro g X
  refine go_iload_n X d_Text_addPart_0 rfl rfl ?_
  refine go_iconst (v := 0) X d_Text_addPart_1 ?_
  refine go_mmax X w_mmax_Text_19 w_mmax_s w_imath w_mmax_c (by omega) (by omega) (by omega) (by omega) (by omega) (Nat.le_of_ble_eq_true rfl) d_Text_addPart_2 ?_
  refine go_istore (lv' := [(4, vi (max f 0)), (0, vr a), (1, vr b), (2, vi f), (3, vi e)]) X d_Text_addPart_5 (by decide) rfl ?_
  refine go_iload_n X d_Text_addPart_7 rfl rfl ?_
  refine go_aload_n X d_Text_addPart_8 rfl rfl ?_
  refine go_get (v := vi (u.length : Int)) X f_Text_15 p1 rfl d_Text_addPart_9 (congrArg (s_v .int) p9) ?_
  refine go_mmin X w_mmin_Text_25 w_mmin_s w_imath w_mmin_c (by omega) (by omega) (by omega) (by omega) (by omega) (Nat.le_of_ble_eq_true rfl) d_Text_addPart_12 ?_
  refine go_istore (lv' := [(5, vi (min e (u.length : Int))), (4, vi (max f 0)), (0, vr a), (1, vr b), (2, vi f), (3, vi e)]) X d_Text_addPart_15 (by decide) rfl ?_
  refine go_iload X d_Text_addPart_17 rfl ?_
  refine go_iload X d_Text_addPart_19 rfl ?_
  refine go_isub X d_Text_addPart_21 ?_
  refine go_aload_n X d_Text_addPart_22 rfl rfl ?_
  refine go_get (v := vr (a + 1)) X f_Text_9 h1 rfl d_Text_addPart_23 (s_varr h3 (by omega)) ?_
  refine go_alen X h2 (by simp) d_Text_addPart_26 ?_
  refine go_aload_n X d_Text_addPart_27 rfl rfl ?_
  refine go_get (v := vi (t.length : Int)) X f_Text_15 h1 rfl d_Text_addPart_28 (congrArg (s_v .int) h9) ?_
  refine go_isub X d_Text_addPart_31 ?_
  refine go_mmin X w_mmin_Text_25 w_mmin_s w_imath w_mmin_c (by omega) (by omega) (by omega) (by omega) (by omega) (Nat.le_of_ble_eq_true rfl) d_Text_addPart_32 ?_
  refine go_istore (lv' := [(6, vi (min ((min e (u.length : Int)) - (max f 0)) (N - (t.length : Int)))), (5, vi (min e (u.length : Int))), (4, vi (max f 0)), (0, vr a), (1, vr b), (2, vi f), (3, vi e)]) X d_Text_addPart_35 (by decide) rfl ?_
  refine go_iload X d_Text_addPart_37 rfl ?_
  refine go_if_le (tgt := 72) X d_Text_addPart_39 rfl (by omega) (fun hq1 => ?_) (fun hq1 => ?_)
  · skip
    refine go_vret X d_Text_addPart_72 rfl (by omega) (by omega) ?_
    refine ⟨rfl, rfl, rfl, ?_, fun z _ => rfl⟩
    have e0 : sl u (max f 0) (min (min e (u.length : Int) - max f 0) ((N : Int) - t.length)) = [] := by unfold sl; rw [show (min (min e (u.length : Int) - max f 0) ((N : Int) - t.length)).toNat = 0 by omega]; exact List.take_zero
    rw [e0, List.append_nil]
    exact hA0
  · skip
    refine go_aload_n X d_Text_addPart_42 rfl rfl ?_
    refine go_get (v := vr (b + 1)) X f_Text_9 p1 rfl d_Text_addPart_43 (s_varr p3 (by omega)) ?_
    refine go_iload X d_Text_addPart_46 rfl ?_
    refine go_aload_n X d_Text_addPart_48 rfl rfl ?_
    refine go_get (v := vr (a + 1)) X f_Text_9 h1 rfl d_Text_addPart_49 (s_varr h3 (by omega)) ?_
    refine go_aload_n X d_Text_addPart_52 rfl rfl ?_
    refine go_get (v := vi (t.length : Int)) X f_Text_15 h1 rfl d_Text_addPart_53 (congrArg (s_v .int) h9) ?_
    refine go_iload X d_Text_addPart_56 rfl ?_
    refine go_copyc X w_ac_Text_28 w_ac2 w_ac3 w_ac4 p2 h2 (by omega) (by omega) (by omega) (by omega) (by omega) (by omega) (by omega) (by intro i; exact p6 i) (by omega) (Nat.le_of_ble_eq_true rfl) d_Text_addPart_58 ?_
    generalize hM3 : m_cp M (a + 1) (t.length : Int) (b + 1) (max f 0) (min ((min e (u.length : Int)) - (max f 0)) (N - (t.length : Int))) = M2
    have e4 : M2 a 0 = a + 1 := by rw [← hM3]; exact (congrFun (m_cp_a (by omega)) _).trans h3
    have e5 : M2 a 1 = (t.length : Int) := by rw [← hM3]; exact (congrFun (m_cp_a (by omega)) _).trans h9
    have e6 : M2 b 0 = b + 1 := by rw [← hM3]; exact (congrFun (m_cp_a (by omega)) _).trans p3
    have e7 : M2 b 1 = (u.length : Int) := by rw [← hM3]; exact (congrFun (m_cp_a (by omega)) _).trans p9
    refine go_aload_n X d_Text_addPart_61 rfl rfl ?_
    refine go_dup X d_Text_addPart_62 rfl ?_
    refine go_get (v := vi (t.length : Int)) X f_Text_15 h1 rfl d_Text_addPart_63 (congrArg (s_v .int) e5) ?_
    refine go_iload X d_Text_addPart_66 rfl ?_
    refine go_iadd X d_Text_addPart_68 ?_
    refine go_put (x := ((t.length : Int) + (min ((min e (u.length : Int)) - (max f 0)) (N - (t.length : Int))))) (v := vi ((t.length : Int) + (min ((min e (u.length : Int)) - (max f 0)) (N - (t.length : Int))))) X f_Text_15 h1 rfl d_Text_addPart_69 rfl rfl rfl ?_
    generalize hM9 : m_s M2 a 1 ((t.length : Int) + (min ((min e (u.length : Int)) - (max f 0)) (N - (t.length : Int)))) = M8
    have e10 : M8 a 0 = a + 1 := by rw [← hM9]; exact (m_s_n (by omega)).trans e4
    have e11 : M8 b 0 = b + 1 := by rw [← hM9]; exact (m_s_n (by omega)).trans e6
    have e12 : M8 b 1 = (u.length : Int) := by rw [← hM9]; exact (m_s_n (by omega)).trans e7
    have e13 : M8 a 1 = (t.length : Int) + (min ((min e (u.length : Int)) - (max f 0)) (N - (t.length : Int))) := by rw [← hM9, m_s_s]
    refine go_vret X d_Text_addPart_72 rfl (by omega) (by omega) ?_
    have hz := hA0.addPart hB0 hne (f := max f 0) (m := min (min e (u.length : Int) - max f 0) ((N : Int) - t.length)) (by omega) (by omega) (by omega) (by omega)
    rw [hM3, hM9] at hz
    exact ⟨rfl, rfl, rfl, hz.1, hz.2⟩
set_option maxHeartbeats 4000000 in
set_option maxRecDepth 100000 in
theorem c_Text_indentFrom (l : Launch) (D : va_G) {sh : s_S} {M : s_M} {sz a : Int} {N : Nat} {t : List Int} (h : tv sh M a N t) {i : Int} (hi : -2147483648 ≤ i ∧ i < 2147483648) : Sp l D y_Text_indentFrom prog_11_method_11_code 3 none 2 0 0 [vr a, vi i] sh M sz (fun v sh' M' sz' => v = none ∧ sh' = sh ∧ sz' = sz ∧ tv sh M' a N (if 1 ≤ i ∧ i < t.length then 32 :: 32 :: t.drop (i + 1).toNat else t) ∧ fr (fun z => z = a ∨ z = a + 1) M M') := by
  have hA0 := h
  have hln := h.len
  have hch := h.rng
  obtain ⟨⟨h1, h2, h3, h4, h5, h6, h7, h8⟩, h9, h10⟩ := h
  refine Sp.ofGo (own := "CiteForge$Text") (nm := "indentFrom") (by decide) rfl rfl (Nat.le_of_ble_eq_true rfl) (lv := [(0, vr a), (1, vi i)]) rfl ?_
  intro g X
  refine go_iload_n X d_Text_indentFrom_0 rfl rfl ?_
  refine go_iconst (v := 1) X d_Text_indentFrom_1 ?_
  refine go_icmp_lt (tgt := 13) X d_Text_indentFrom_2 rfl (by omega) (by omega) (fun hq1 => ?_) (fun hq1 => ?_)
  · skip
    refine go_vret X d_Text_indentFrom_13 rfl (by omega) (by omega) ?_
    refine ⟨rfl, rfl, rfl, ?_, fun z _ => rfl⟩
    rw [if_neg (by omega)]
    exact hA0
  · skip
    refine go_iload_n X d_Text_indentFrom_5 rfl rfl ?_
    refine go_aload_n X d_Text_indentFrom_6 rfl rfl ?_
    refine go_get (v := vi (t.length : Int)) X f_Text_15 h1 rfl d_Text_indentFrom_7 (congrArg (s_v .int) h9) ?_
    refine go_icmp_lt (tgt := 14) X d_Text_indentFrom_10 rfl (by omega) (by omega) (fun hq2 => ?_) (fun hq2 => ?_)
    · skip
      refine go_aload_n X d_Text_indentFrom_14 rfl rfl ?_
      refine go_get (v := vi (t.length : Int)) X f_Text_15 h1 rfl d_Text_indentFrom_15 (congrArg (s_v .int) h9) ?_
      refine go_iload_n X d_Text_indentFrom_18 rfl rfl ?_
      refine go_isub X d_Text_indentFrom_19 ?_
      refine go_iconst (v := 1) X d_Text_indentFrom_20 ?_
      refine go_isub X d_Text_indentFrom_21 ?_
      refine go_istore_n (lv' := [(2, vi (((t.length : Int) - i) - 1)), (0, vr a), (1, vi i)]) X d_Text_indentFrom_22 rfl (by decide) rfl ?_
      refine go_aload_n X d_Text_indentFrom_23 rfl rfl ?_
      refine go_get (v := vr (a + 1)) X f_Text_9 h1 rfl d_Text_indentFrom_24 (s_varr h3 (by omega)) ?_
      refine go_iload_n X d_Text_indentFrom_27 rfl rfl ?_
      refine go_iconst (v := 1) X d_Text_indentFrom_28 ?_
      refine go_iadd X d_Text_indentFrom_29 ?_
      refine go_aload_n X d_Text_indentFrom_30 rfl rfl ?_
      refine go_get (v := vr (a + 1)) X f_Text_9 h1 rfl d_Text_indentFrom_31 (s_varr h3 (by omega)) ?_
      refine go_iconst (v := 2) X d_Text_indentFrom_34 ?_
      refine go_iload_n X d_Text_indentFrom_35 rfl rfl ?_
      refine go_copyc X w_ac_Text_28 w_ac2 w_ac3 w_ac4 h2 h2 (by omega) (by omega) (by omega) (by omega) (by omega) (by omega) (by omega) (by intro i; exact h6 i) (by omega) (Nat.le_of_ble_eq_true rfl) d_Text_indentFrom_36 ?_
      generalize hM4 : m_cp M (a + 1) 2 (a + 1) (i + 1) (((t.length : Int) - i) - 1) = M3
      have e5 : M3 a 0 = a + 1 := by rw [← hM4]; exact (congrFun (m_cp_a (by omega)) _).trans h3
      have e6 : M3 a 1 = (t.length : Int) := by rw [← hM4]; exact (congrFun (m_cp_a (by omega)) _).trans h9
      refine go_aload_n X d_Text_indentFrom_39 rfl rfl ?_
      refine go_get (v := vr (a + 1)) X f_Text_9 h1 rfl d_Text_indentFrom_40 (s_varr e5 (by omega)) ?_
      refine go_iconst (v := 0) X d_Text_indentFrom_43 ?_
      refine go_bipush (v := 32) X d_Text_indentFrom_44 (by decide) ?_
      refine go_cast X h2 (by omega) (by omega) (n_nc (by omega)) d_Text_indentFrom_46 ?_
      generalize hM8 : m_s M3 (a + 1) 0 32 = M7
      have e9 : M7 a 0 = a + 1 := by rw [← hM8]; exact (m_s_n (by omega)).trans e5
      have e10 : M7 a 1 = (t.length : Int) := by rw [← hM8]; exact (m_s_n (by omega)).trans e6
      have e11 : M7 (a + 1) 0 = 32 := by rw [← hM8, m_s_s]
      refine go_aload_n X d_Text_indentFrom_47 rfl rfl ?_
      refine go_get (v := vr (a + 1)) X f_Text_9 h1 rfl d_Text_indentFrom_48 (s_varr e9 (by omega)) ?_
      refine go_iconst (v := 1) X d_Text_indentFrom_51 ?_
      refine go_bipush (v := 32) X d_Text_indentFrom_52 (by decide) ?_
      refine go_cast X h2 (by omega) (by omega) (n_nc (by omega)) d_Text_indentFrom_54 ?_
      generalize hM13 : m_s M7 (a + 1) 1 32 = M12
      have e14 : M12 a 0 = a + 1 := by rw [← hM13]; exact (m_s_n (by omega)).trans e9
      have e15 : M12 a 1 = (t.length : Int) := by rw [← hM13]; exact (m_s_n (by omega)).trans e10
      have e16 : M12 (a + 1) 0 = 32 := by rw [← hM13]; exact (m_s_n (by omega)).trans e11
      have e17 : M12 (a + 1) 1 = 32 := by rw [← hM13, m_s_s]
      refine go_aload_n X d_Text_indentFrom_55 rfl rfl ?_
      refine go_iload_n X d_Text_indentFrom_56 rfl rfl ?_
      refine go_iconst (v := 2) X d_Text_indentFrom_57 ?_
      refine go_iadd X d_Text_indentFrom_58 ?_
      refine go_put (x := ((((t.length : Int) - i) - 1) + 2)) (v := vi ((((t.length : Int) - i) - 1) + 2)) X f_Text_15 h1 rfl d_Text_indentFrom_59 rfl rfl rfl ?_
      generalize hM19 : m_s M12 a 1 ((((t.length : Int) - i) - 1) + 2) = M18
      have e20 : M18 a 0 = a + 1 := by rw [← hM19]; exact (m_s_n (by omega)).trans e14
      have e21 : M18 (a + 1) 0 = 32 := by rw [← hM19]; exact (m_s_n (by omega)).trans e16
      have e22 : M18 (a + 1) 1 = 32 := by rw [← hM19]; exact (m_s_n (by omega)).trans e17
      have e23 : M18 a 1 = (((t.length : Int) - i) - 1) + 2 := by rw [← hM19, m_s_s]
      refine go_vret X d_Text_indentFrom_62 rfl (by omega) (by omega) ?_
      have hz := hA0.indent (i := i) (by omega) (by omega)
      rw [hM4, hM8, hM13, hM19] at hz
      rw [if_pos (by omega)]
      exact ⟨rfl, rfl, rfl, hz.1, hz.2⟩
    · skip
      refine go_vret X d_Text_indentFrom_13 rfl (by omega) (by omega) ?_
      refine ⟨rfl, rfl, rfl, ?_, fun z _ => rfl⟩
      rw [if_neg (by omega)]
      exact hA0
