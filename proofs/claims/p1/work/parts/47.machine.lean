theorem mcv.upd {sh : s_S} {M M' : s_M} {p s c k g_ w : Int} {O Q Z G O' Q' Z' G' : Int → Int} (h : mcv sh M p s c k g_ w O Q Z G) (hp : ∀ j : Int, j ≠ 15 → j ≠ 16 → M' p j = M p j) (he : ∀ z, p + 1 ≤ z → z < p + 6 → M' z = M z) (r6 : M' (p + 6) = O') (r7 : M' (p + 7) = Q') (r8 : M' (p + 8) = Z') (r9 : M' (p + 9) = G') : mcv sh M' p s c k g_ w O' Q' Z' G' := by
  obtain ⟨h1, h2, ⟨b1, b2, b3, b4, b5⟩, ⟨c1, c2, c3, c4, c5, c6, c7, c8, c9, c10⟩, h5, -, h7⟩ := h
  refine ⟨h1, h2, ⟨?_, ?_, ?_, ?_, ?_⟩, ⟨?_, ?_, ?_, ?_, ?_, ?_, ?_, ?_, ?_, ?_⟩, h5.mv (fun z q1 q2 => ⟨rfl, he z q1 (Int.lt_of_lt_of_le q2 (by omega))⟩), ⟨r6, r7, r8, r9⟩, h7⟩
  · exact (hp _ (by decide) (by decide)).trans b1
  · exact (hp _ (by decide) (by decide)).trans b2
  · exact (hp _ (by decide) (by decide)).trans b3
  · exact (hp _ (by decide) (by decide)).trans b4
  · exact (hp _ (by decide) (by decide)).trans b5
  · exact (hp _ (by decide) (by decide)).trans c1
  · exact (hp _ (by decide) (by decide)).trans c2
  · exact (hp _ (by decide) (by decide)).trans c3
  · exact (hp _ (by decide) (by decide)).trans c4
  · exact (hp _ (by decide) (by decide)).trans c5
  · exact (hp _ (by decide) (by decide)).trans c6
  · exact (hp _ (by decide) (by decide)).trans c7
  · exact (hp _ (by decide) (by decide)).trans c8
  · exact (hp _ (by decide) (by decide)).trans c9
  · exact (hp _ (by decide) (by decide)).trans c10
set_option maxHeartbeats 4000000 in
set_option maxRecDepth 100000 in
theorem c_Machine_isFunction (l : Launch) (D : va_G) {sh : s_S} {M : s_M} {sz c : Int} (hc : -2147483648 ≤ c ∧ c < 2147483648) : Sp l D y_Machine_isFunction prog_5_method_2_code 1 (some .boolean) 1 0 0 [vi c] sh M sz (pF (some (vi (s_b (decide (0 ≤ c ∧ c < 6))))) sh M sz) := by
  refine Sp.ofGo (own := "CiteForge$Machine") (nm := "isFunction") (by decide) rfl rfl (Nat.le_of_ble_eq_true rfl) (lv := [(0, vi c)]) rfl ?_
  intro g X
  refine go_iload_n X d_Machine_isFunction_0 rfl rfl ?_
  refine go_if_lt (tgt := 14) X d_Machine_isFunction_1 rfl (by omega) (fun hq1 => ?_) (fun hq1 => ?_)
  · skip
    refine go_iconst (v := 0) X d_Machine_isFunction_14 ?_
    refine go_iret X d_Machine_isFunction_15 rfl ?_ (by omega) (by omega) ?_
    · rfl
    · refine ⟨?_, rfl, rfl, rfl⟩
      have hb : decide (0 ≤ c ∧ c < 6) = false := by simp only [decide_eq_true_eq, decide_eq_false_iff_not]; omega
      rw [hb]; rfl
  · skip
    refine go_iload_n X d_Machine_isFunction_4 rfl rfl ?_
    refine go_bipush (v := 6) X d_Machine_isFunction_5 (by decide) ?_
    refine go_icmp_ge (tgt := 14) X d_Machine_isFunction_7 rfl (by omega) (by omega) (fun hq2 => ?_) (fun hq2 => ?_)
    · skip
      refine go_iconst (v := 0) X d_Machine_isFunction_14 ?_
      refine go_iret X d_Machine_isFunction_15 rfl ?_ (by omega) (by omega) ?_
      · rfl
      · refine ⟨?_, rfl, rfl, rfl⟩
        have hb : decide (0 ≤ c ∧ c < 6) = false := by simp only [decide_eq_true_eq, decide_eq_false_iff_not]; omega
        rw [hb]; rfl
    · skip
      refine go_iconst (v := 1) X d_Machine_isFunction_10 ?_
      refine go_goto (tgt := 15) X d_Machine_isFunction_11 rfl ?_
      refine go_iret X d_Machine_isFunction_15 rfl ?_ (by omega) (by omega) ?_
      · rfl
      · refine ⟨?_, rfl, rfl, rfl⟩
        have hb : decide (0 ≤ c ∧ c < 6) = true := by simp only [decide_eq_true_eq, decide_eq_false_iff_not]; omega
        rw [hb]; rfl
set_option maxHeartbeats 4000000 in
set_option maxRecDepth 100000 in
theorem c_Machine_isOperation (l : Launch) (D : va_G) {sh : s_S} {M : s_M} {sz c : Int} (hc : -2147483648 ≤ c ∧ c < 2147483648) : Sp l D y_Machine_isOperation prog_5_method_3_code 1 (some .boolean) 1 0 0 [vi c] sh M sz (pF (some (vi (s_b (decide (0 ≤ c ∧ c < 30))))) sh M sz) := by
  refine Sp.ofGo (own := "CiteForge$Machine") (nm := "isOperation") (by decide) rfl rfl (Nat.le_of_ble_eq_true rfl) (lv := [(0, vi c)]) rfl ?_
  intro g X
  refine go_iload_n X d_Machine_isOperation_0 rfl rfl ?_
  refine go_if_lt (tgt := 14) X d_Machine_isOperation_1 rfl (by omega) (fun hq1 => ?_) (fun hq1 => ?_)
  · skip
    refine go_iconst (v := 0) X d_Machine_isOperation_14 ?_
    refine go_iret X d_Machine_isOperation_15 rfl ?_ (by omega) (by omega) ?_
    · rfl
    · refine ⟨?_, rfl, rfl, rfl⟩
      have hb : decide (0 ≤ c ∧ c < 30) = false := by simp only [decide_eq_true_eq, decide_eq_false_iff_not]; omega
      rw [hb]; rfl
  · skip
    refine go_iload_n X d_Machine_isOperation_4 rfl rfl ?_
    refine go_bipush (v := 30) X d_Machine_isOperation_5 (by decide) ?_
    refine go_icmp_ge (tgt := 14) X d_Machine_isOperation_7 rfl (by omega) (by omega) (fun hq2 => ?_) (fun hq2 => ?_)
    · skip
      refine go_iconst (v := 0) X d_Machine_isOperation_14 ?_
      refine go_iret X d_Machine_isOperation_15 rfl ?_ (by omega) (by omega) ?_
      · rfl
      · refine ⟨?_, rfl, rfl, rfl⟩
        have hb : decide (0 ≤ c ∧ c < 30) = false := by simp only [decide_eq_true_eq, decide_eq_false_iff_not]; omega
        rw [hb]; rfl
    · skip
      refine go_iconst (v := 1) X d_Machine_isOperation_10 ?_
      refine go_goto (tgt := 15) X d_Machine_isOperation_11 rfl ?_
      refine go_iret X d_Machine_isOperation_15 rfl ?_ (by omega) (by omega) ?_
      · rfl
      · refine ⟨?_, rfl, rfl, rfl⟩
        have hb : decide (0 ≤ c ∧ c < 30) = true := by simp only [decide_eq_true_eq, decide_eq_false_iff_not]; omega
        rw [hb]; rfl
set_option maxHeartbeats 4000000 in
set_option maxRecDepth 100000 in
theorem c_Machine_isFull (l : Launch) (D : va_G) {sh : s_S} {M : s_M} {sz p s c k g_ w : Int} {O Q Z G : Int → Int} (h : mcv sh M p s c k g_ w O Q Z G) {f : Int} (hf : 0 ≤ f ∧ f < 6) (hZ : 0 ≤ Z f ∧ Z f ≤ 24) : Sp l D y_Machine_isFull prog_5_method_4_code 2 (some .boolean) 1 0 0 [vr p, vi f] sh M sz (pF (some (vi (s_b (decide (24 ≤ Z f))))) sh M sz) := by
  have hh := h
  have h1 := h.1
  have h7 : 0 ≤ p := h.2.2.2.2.2.2
  have c_sizes := h.2.2.2.1.2.2.2.1
  have s_8 := h.2.1.2.2.1
  have r_8 := h.2.2.2.2.2.1.2.2.1
  refine Sp.ofGo (own := "CiteForge$Machine") (nm := "isFull") (by decide) rfl rfl (Nat.le_of_ble_eq_true rfl) (lv := [(0, vr p), (1, vi f)]) rfl ?_
  intro g X
  refine go_aload_n X d_Machine_isFull_0 rfl rfl ?_
  refine go_get (v := vr (p + 8)) X f_Machine_45 h1 rfl d_Machine_isFull_1 (s_varr c_sizes (by omega)) ?_
  refine go_iload_n X d_Machine_isFull_4 rfl rfl ?_
  refine go_iald X s_8 (by omega) (by omega) d_Machine_isFull_5 ?_
  refine go_top (v' := vi (Z f)) X (by rw [r_8]) ?_
  refine go_bipush (v := 24) X d_Machine_isFull_6 (by decide) ?_
  refine go_icmp_lt (tgt := 15) X d_Machine_isFull_8 rfl (by omega) (by omega) (fun hq1 => ?_) (fun hq1 => ?_)
  · skip
    refine go_iconst (v := 0) X d_Machine_isFull_15 ?_
    refine go_iret X d_Machine_isFull_16 rfl ?_ (by omega) (by omega) ?_
    · rfl
    · refine ⟨?_, rfl, rfl, rfl⟩
      have hb : decide (24 ≤ Z f) = false := by simp only [decide_eq_true_eq, decide_eq_false_iff_not]; omega
      rw [hb]; rfl
  · skip
    refine go_iconst (v := 1) X d_Machine_isFull_11 ?_
    refine go_goto (tgt := 16) X d_Machine_isFull_12 rfl ?_
    refine go_iret X d_Machine_isFull_16 rfl ?_ (by omega) (by omega) ?_
    · rfl
    · refine ⟨?_, rfl, rfl, rfl⟩
      have hb : decide (24 ≤ Z f) = true := by simp only [decide_eq_true_eq, decide_eq_false_iff_not]; omega
      rw [hb]; rfl
set_option maxHeartbeats 4000000 in
set_option maxRecDepth 100000 in
theorem c_Machine_addOperation (l : Launch) (D : va_G) {sh : s_S} {M : s_M} {sz p s c k g_ w : Int} {O Q Z G : Int → Int} (h : mcv sh M p s c k g_ w O Q Z G) {f : Int} (hf : 0 ≤ f ∧ f < 6) (hZ : 0 ≤ Z f ∧ Z f ≤ 24) (hZ2 : Z f < 24) {q v : Int} (hq : 0 ≤ q ∧ q < 30) (hv : rL v) : Sp l D y_Machine_addOperation prog_5_method_5_code 6 (some .int) 2 0 0 [vr p, vi f, vi q, vl v] sh M sz (fun v' sh' M' sz' => v' = some (vi (Z f + 1)) ∧ sh' = sh ∧ sz' = sz ∧ mcv sh M' p s c k g_ w (rset O (f * 24 + Z f) q) (rset Q (f * 24 + Z f) (if 13 ≤ q then max v 0 else v)) (inc Z f) G ∧ fr (fun z => p + 6 ≤ z ∧ z ≤ p + 9) M M') := by
  have hh := h
  have h1 := h.1
  have h7 : 0 ≤ p := h.2.2.2.2.2.2
  have c_operations := h.2.2.2.1.2.1
  have c_arguments := h.2.2.2.1.2.2.1
  have c_sizes := h.2.2.2.1.2.2.2.1
  have s_6 := h.2.1.1
  have r_6 := h.2.2.2.2.2.1.1
  have s_7 := h.2.1.2.1
  have r_7 := h.2.2.2.2.2.1.2.1
  have s_8 := h.2.1.2.2.1
  have r_8 := h.2.2.2.2.2.1.2.2.1
  have s_9 := h.2.1.2.2.2
  have r_9 := h.2.2.2.2.2.1.2.2.2
  refine Sp.ofGo (own := "CiteForge$Machine") (nm := "addOperation") (by decide) rfl rfl (Nat.le_of_ble_eq_true rfl) (lv := [(0, vr p), (1, vi f), (2, vi q), (3, vl v)]) rfl ?_
  intro g X
  refine go_iload_n X d_Machine_addOperation_0 rfl rfl ?_
  refine go_bipush (v := 24) X d_Machine_addOperation_1 (by decide) ?_
  refine go_imul X d_Machine_addOperation_3 ?_
  refine go_aload_n X d_Machine_addOperation_4 rfl rfl ?_
  refine go_get (v := vr (p + 8)) X f_Machine_45 h1 rfl d_Machine_addOperation_5 (s_varr c_sizes (by omega)) ?_
  refine go_iload_n X d_Machine_addOperation_8 rfl rfl ?_
  refine go_iald X s_8 (by omega) (by omega) d_Machine_addOperation_9 ?_
  refine go_top (v' := vi (Z f)) X (by rw [r_8]) ?_
  refine go_iadd X d_Machine_addOperation_10 ?_
  refine go_istore (lv' := [(5, vi ((f * 24) + (Z f))), (0, vr p), (1, vi f), (2, vi q), (3, vl v)]) X d_Machine_addOperation_11 (by decide) rfl ?_
  refine go_aload_n X d_Machine_addOperation_13 rfl rfl ?_
  refine go_get (v := vr (p + 6)) X f_Machine_38 h1 rfl d_Machine_addOperation_14 (s_varr c_operations (by omega)) ?_
  refine go_iload X d_Machine_addOperation_17 rfl ?_
  refine go_iload_n X d_Machine_addOperation_19 rfl rfl ?_
  refine go_iast X s_6 (by omega) (by omega) d_Machine_addOperation_20 ?_
  generalize hM2 : m_s M (p + 6) ((f * 24) + (Z f)) q = M1
  have e3 : M1 p 6 = p + 6 := by rw [← hM2]; exact (m_s_n (fun q => absurd q.1 (of_ne1 (by decide)))).trans c_operations
  have e4 : M1 p 7 = p + 7 := by rw [← hM2]; exact (m_s_n (fun q => absurd q.1 (of_ne1 (by decide)))).trans c_arguments
  have e5 : M1 p 8 = p + 8 := by rw [← hM2]; exact (m_s_n (fun q => absurd q.1 (of_ne1 (by decide)))).trans c_sizes
  have e6 : M1 (p + 6) ((f * 24) + (Z f)) = q := by rw [← hM2, m_s_s]
  have fr7 : fr (fun z => p + 6 ≤ z ∧ z ≤ p + 9) M M1 := fun z hz => by
    have hz1 : ¬ (p + 6 ≤ z ∧ z ≤ p + 9) := hz
    rw [← hM2]; exact (m_s_a (by omega))
  have rw8 : M1 (p + 6) = rset O ((f * 24) + (Z f)) q := by rw [← hM2]; exact row_set r_6
  have rw9 : M1 (p + 7) = Q := by rw [← hM2]; exact (m_s_a (of_ne (by decide))).trans r_7
  have rw10 : M1 (p + 8) = Z := by rw [← hM2]; exact (m_s_a (of_ne (by decide))).trans r_8
  have rw11 : M1 (p + 9) = G := by rw [← hM2]; exact (m_s_a (of_ne (by decide))).trans r_9
  refine go_aload_n X d_Machine_addOperation_21 rfl rfl ?_
  refine go_get (v := vr (p + 7)) X f_Machine_41 h1 rfl d_Machine_addOperation_22 (s_varr e4 (by omega)) ?_
  refine go_iload X d_Machine_addOperation_25 rfl ?_
  refine go_iload_n X d_Machine_addOperation_27 rfl rfl ?_
  refine go_bipush (v := 13) X d_Machine_addOperation_28 (by decide) ?_
  refine go_icmp_lt (tgt := 41) X d_Machine_addOperation_30 rfl (by omega) (by omega) (fun hq12 => ?_) (fun hq12 => ?_)
  · skip
    refine go_lload_n X d_Machine_addOperation_41 rfl rfl ?_
    refine go_last X s_7 (by omega) (by omega) d_Machine_addOperation_42 ?_
    generalize hM14 : m_s M1 (p + 7) ((f * 24) + (Z f)) v = M13
    have e15 : M13 p 6 = p + 6 := by rw [← hM14]; exact (m_s_n (fun q => absurd q.1 (of_ne1 (by decide)))).trans e3
    have e16 : M13 p 7 = p + 7 := by rw [← hM14]; exact (m_s_n (fun q => absurd q.1 (of_ne1 (by decide)))).trans e4
    have e17 : M13 p 8 = p + 8 := by rw [← hM14]; exact (m_s_n (fun q => absurd q.1 (of_ne1 (by decide)))).trans e5
    have e18 : M13 (p + 7) ((f * 24) + (Z f)) = v := by rw [← hM14, m_s_s]
    have fr19 : fr (fun z => p + 6 ≤ z ∧ z ≤ p + 9) M M13 := fun z hz => by
      have hz1 : ¬ (p + 6 ≤ z ∧ z ≤ p + 9) := hz
      rw [← hM14]; exact (m_s_a (by omega)).trans (fr7 z hz)
    have rw20 : M13 (p + 6) = rset O ((f * 24) + (Z f)) q := by rw [← hM14]; exact (m_s_a (of_ne (by decide))).trans rw8
    have rw21 : M13 (p + 7) = rset Q ((f * 24) + (Z f)) v := by rw [← hM14]; exact row_set rw9
    have rw22 : M13 (p + 8) = Z := by rw [← hM14]; exact (m_s_a (of_ne (by decide))).trans rw10
    have rw23 : M13 (p + 9) = G := by rw [← hM14]; exact (m_s_a (of_ne (by decide))).trans rw11
    clear e3 e4 e5 fr7 rw10 rw11 rw8 rw9
    refine go_aload_n X d_Machine_addOperation_43 rfl rfl ?_
    refine go_get (v := vr (p + 8)) X f_Machine_45 h1 rfl d_Machine_addOperation_44 (s_varr e17 (by omega)) ?_
    refine go_iload_n X d_Machine_addOperation_47 rfl rfl ?_
    refine go_dup2 X d_Machine_addOperation_48 rfl rfl ?_
    refine go_iald X s_8 (by omega) (by omega) d_Machine_addOperation_49 ?_
    refine go_top (v' := vi (Z f)) X (by rw [rw22]) ?_
    refine go_iconst (v := 1) X d_Machine_addOperation_50 ?_
    refine go_iadd X d_Machine_addOperation_51 ?_
    refine go_iast X s_8 (by omega) (by omega) d_Machine_addOperation_52 ?_
    generalize hM25 : m_s M13 (p + 8) f ((Z f) + 1) = M24
    have e26 : M24 p 6 = p + 6 := by rw [← hM25]; exact (m_s_n (fun q => absurd q.1 (of_ne1 (by decide)))).trans e15
    have e27 : M24 p 7 = p + 7 := by rw [← hM25]; exact (m_s_n (fun q => absurd q.1 (of_ne1 (by decide)))).trans e16
    have e28 : M24 p 8 = p + 8 := by rw [← hM25]; exact (m_s_n (fun q => absurd q.1 (of_ne1 (by decide)))).trans e17
    have e29 : M24 (p + 8) f = (Z f) + 1 := by rw [← hM25, m_s_s]
    have fr30 : fr (fun z => p + 6 ≤ z ∧ z ≤ p + 9) M M24 := fun z hz => by
      have hz1 : ¬ (p + 6 ≤ z ∧ z ≤ p + 9) := hz
      rw [← hM25]; exact (m_s_a (by omega)).trans (fr19 z hz)
    have rw31 : M24 (p + 6) = rset O ((f * 24) + (Z f)) q := by rw [← hM25]; exact (m_s_a (of_ne (by decide))).trans rw20
    have rw32 : M24 (p + 7) = rset Q ((f * 24) + (Z f)) v := by rw [← hM25]; exact (m_s_a (of_ne (by decide))).trans rw21
    have rw33 : M24 (p + 8) = inc Z f := by rw [← hM25]; exact row_inc rw22
    have rw34 : M24 (p + 9) = G := by rw [← hM25]; exact (m_s_a (of_ne (by decide))).trans rw23
    clear e15 e16 e17 fr19 rw20 rw21 rw22 rw23
    refine go_aload_n X d_Machine_addOperation_53 rfl rfl ?_
    refine go_get (v := vr (p + 8)) X f_Machine_45 h1 rfl d_Machine_addOperation_54 (s_varr e28 (by omega)) ?_
    refine go_iload_n X d_Machine_addOperation_57 rfl rfl ?_
    refine go_iald X s_8 (by omega) (by omega) d_Machine_addOperation_58 ?_
    refine go_top (v' := vi ((inc Z f) f)) X (by rw [rw33]) ?_
    refine go_iret X d_Machine_addOperation_59 rfl ?_ (by omega) (by omega) ?_
    · rfl
    have e0 : inc Z f f = Z f + 1 := if_pos rfl
    rw [e0]
    have e1 : (if 13 ≤ q then max v 0 else v) = v := if_neg (by omega)
    rw [e1]
    exact ⟨rfl, rfl, rfl, hh.upd (fun j _ _ => congrFun (fr30 p (by omega)) j) (fun z q1 q2 => fr30 z (by omega)) (rw31) (rw32) (rw33) (rw34), fr30⟩
  · skip
    refine go_lload_n X d_Machine_addOperation_33 rfl rfl ?_
    refine go_lconst (x := 0) X d_Machine_addOperation_34 (by decide) ?_
    refine go_mmaxl X w_mmaxl_Machine_76 w_mmaxl_s w_imath w_mmaxl_c (by omega) (by omega) (by omega) (by omega) (by omega) (Nat.le_of_ble_eq_true rfl) d_Machine_addOperation_35 ?_
    refine go_goto (tgt := 42) X d_Machine_addOperation_38 rfl ?_
    refine go_last X s_7 (by omega) (by omega) d_Machine_addOperation_42 ?_
    generalize hM36 : m_s M1 (p + 7) ((f * 24) + (Z f)) (max v 0) = M35
    have e37 : M35 p 6 = p + 6 := by rw [← hM36]; exact (m_s_n (fun q => absurd q.1 (of_ne1 (by decide)))).trans e3
    have e38 : M35 p 7 = p + 7 := by rw [← hM36]; exact (m_s_n (fun q => absurd q.1 (of_ne1 (by decide)))).trans e4
    have e39 : M35 p 8 = p + 8 := by rw [← hM36]; exact (m_s_n (fun q => absurd q.1 (of_ne1 (by decide)))).trans e5
    have e40 : M35 (p + 7) ((f * 24) + (Z f)) = max v 0 := by rw [← hM36, m_s_s]
    have fr41 : fr (fun z => p + 6 ≤ z ∧ z ≤ p + 9) M M35 := fun z hz => by
      have hz1 : ¬ (p + 6 ≤ z ∧ z ≤ p + 9) := hz
      rw [← hM36]; exact (m_s_a (by omega)).trans (fr7 z hz)
    have rw42 : M35 (p + 6) = rset O ((f * 24) + (Z f)) q := by rw [← hM36]; exact (m_s_a (of_ne (by decide))).trans rw8
    have rw43 : M35 (p + 7) = rset Q ((f * 24) + (Z f)) (max v 0) := by rw [← hM36]; exact row_set rw9
    have rw44 : M35 (p + 8) = Z := by rw [← hM36]; exact (m_s_a (of_ne (by decide))).trans rw10
    have rw45 : M35 (p + 9) = G := by rw [← hM36]; exact (m_s_a (of_ne (by decide))).trans rw11
    clear e3 e4 e5 fr7 rw10 rw11 rw8 rw9
    refine go_aload_n X d_Machine_addOperation_43 rfl rfl ?_
    refine go_get (v := vr (p + 8)) X f_Machine_45 h1 rfl d_Machine_addOperation_44 (s_varr e39 (by omega)) ?_
    refine go_iload_n X d_Machine_addOperation_47 rfl rfl ?_
    refine go_dup2 X d_Machine_addOperation_48 rfl rfl ?_
    refine go_iald X s_8 (by omega) (by omega) d_Machine_addOperation_49 ?_
    refine go_top (v' := vi (Z f)) X (by rw [rw44]) ?_
    refine go_iconst (v := 1) X d_Machine_addOperation_50 ?_
    refine go_iadd X d_Machine_addOperation_51 ?_
    refine go_iast X s_8 (by omega) (by omega) d_Machine_addOperation_52 ?_
    generalize hM47 : m_s M35 (p + 8) f ((Z f) + 1) = M46
    have e48 : M46 p 6 = p + 6 := by rw [← hM47]; exact (m_s_n (fun q => absurd q.1 (of_ne1 (by decide)))).trans e37
    have e49 : M46 p 7 = p + 7 := by rw [← hM47]; exact (m_s_n (fun q => absurd q.1 (of_ne1 (by decide)))).trans e38
    have e50 : M46 p 8 = p + 8 := by rw [← hM47]; exact (m_s_n (fun q => absurd q.1 (of_ne1 (by decide)))).trans e39
    have e51 : M46 (p + 8) f = (Z f) + 1 := by rw [← hM47, m_s_s]
    have fr52 : fr (fun z => p + 6 ≤ z ∧ z ≤ p + 9) M M46 := fun z hz => by
      have hz1 : ¬ (p + 6 ≤ z ∧ z ≤ p + 9) := hz
      rw [← hM47]; exact (m_s_a (by omega)).trans (fr41 z hz)
    have rw53 : M46 (p + 6) = rset O ((f * 24) + (Z f)) q := by rw [← hM47]; exact (m_s_a (of_ne (by decide))).trans rw42
    have rw54 : M46 (p + 7) = rset Q ((f * 24) + (Z f)) (max v 0) := by rw [← hM47]; exact (m_s_a (of_ne (by decide))).trans rw43
    have rw55 : M46 (p + 8) = inc Z f := by rw [← hM47]; exact row_inc rw44
    have rw56 : M46 (p + 9) = G := by rw [← hM47]; exact (m_s_a (of_ne (by decide))).trans rw45
    clear e37 e38 e39 fr41 rw42 rw43 rw44 rw45
    refine go_aload_n X d_Machine_addOperation_53 rfl rfl ?_
    refine go_get (v := vr (p + 8)) X f_Machine_45 h1 rfl d_Machine_addOperation_54 (s_varr e50 (by omega)) ?_
    refine go_iload_n X d_Machine_addOperation_57 rfl rfl ?_
    refine go_iald X s_8 (by omega) (by omega) d_Machine_addOperation_58 ?_
    refine go_top (v' := vi ((inc Z f) f)) X (by rw [rw55]) ?_
    refine go_iret X d_Machine_addOperation_59 rfl ?_ (by omega) (by omega) ?_
    · rfl
    have e0 : inc Z f f = Z f + 1 := if_pos rfl
    rw [e0]
    have e1 : (if 13 ≤ q then max v 0 else v) = max v 0 := if_pos (by omega)
    rw [e1]
    exact ⟨rfl, rfl, rfl, hh.upd (fun j _ _ => congrFun (fr52 p (by omega)) j) (fun z q1 q2 => fr52 z (by omega)) (rw53) (rw54) (rw55) (rw56), fr52⟩
set_option maxHeartbeats 4000000 in
set_option maxRecDepth 100000 in
theorem c_Machine_dropOperations (l : Launch) (D : va_G) {sh : s_S} {M : s_M} {sz p s c k g_ w : Int} {O Q Z G : Int → Int} (h : mcv sh M p s c k g_ w O Q Z G) {f : Int} (hf : 0 ≤ f ∧ f < 6) (hZ : 0 ≤ Z f ∧ Z f ≤ 24) : Sp l D y_Machine_dropOperations prog_5_method_6_code 3 (some .int) 1 0 0 [vr p, vi f] sh M sz (fun v' sh' M' sz' => v' = some (vi (Z f)) ∧ sh' = sh ∧ sz' = sz ∧ mcv sh M' p s c k g_ w O Q (rset Z f 0) G ∧ fr (fun z => p + 6 ≤ z ∧ z ≤ p + 9) M M') := by
  have hh := h
  have h1 := h.1
  have h7 : 0 ≤ p := h.2.2.2.2.2.2
  have c_sizes := h.2.2.2.1.2.2.2.1
  have s_6 := h.2.1.1
  have r_6 := h.2.2.2.2.2.1.1
  have s_7 := h.2.1.2.1
  have r_7 := h.2.2.2.2.2.1.2.1
  have s_8 := h.2.1.2.2.1
  have r_8 := h.2.2.2.2.2.1.2.2.1
  have s_9 := h.2.1.2.2.2
  have r_9 := h.2.2.2.2.2.1.2.2.2
  refine Sp.ofGo (own := "CiteForge$Machine") (nm := "dropOperations") (by decide) rfl rfl (Nat.le_of_ble_eq_true rfl) (lv := [(0, vr p), (1, vi f)]) rfl ?_
  intro g X
  refine go_aload_n X d_Machine_dropOperations_0 rfl rfl ?_
  refine go_get (v := vr (p + 8)) X f_Machine_45 h1 rfl d_Machine_dropOperations_1 (s_varr c_sizes (by omega)) ?_
  refine go_iload_n X d_Machine_dropOperations_4 rfl rfl ?_
  refine go_iald X s_8 (by omega) (by omega) d_Machine_dropOperations_5 ?_
  refine go_top (v' := vi (Z f)) X (by rw [r_8]) ?_
  refine go_istore_n (lv' := [(2, vi (Z f)), (0, vr p), (1, vi f)]) X d_Machine_dropOperations_6 rfl (by decide) rfl ?_
  refine go_aload_n X d_Machine_dropOperations_7 rfl rfl ?_
  refine go_get (v := vr (p + 8)) X f_Machine_45 h1 rfl d_Machine_dropOperations_8 (s_varr c_sizes (by omega)) ?_
  refine go_iload_n X d_Machine_dropOperations_11 rfl rfl ?_
  refine go_iconst (v := 0) X d_Machine_dropOperations_12 ?_
  refine go_iast X s_8 (by omega) (by omega) d_Machine_dropOperations_13 ?_
  generalize hM2 : m_s M (p + 8) f 0 = M1
  have e3 : M1 p 8 = p + 8 := by rw [← hM2]; exact (m_s_n (fun q => absurd q.1 (of_ne1 (by decide)))).trans c_sizes
  have e4 : M1 (p + 8) f = 0 := by rw [← hM2, m_s_s]
  have fr5 : fr (fun z => p + 6 ≤ z ∧ z ≤ p + 9) M M1 := fun z hz => by
    have hz1 : ¬ (p + 6 ≤ z ∧ z ≤ p + 9) := hz
    rw [← hM2]; exact (m_s_a (by omega))
  have rw6 : M1 (p + 6) = O := by rw [← hM2]; exact (m_s_a (of_ne (by decide))).trans r_6
  have rw7 : M1 (p + 7) = Q := by rw [← hM2]; exact (m_s_a (of_ne (by decide))).trans r_7
  have rw8 : M1 (p + 8) = rset Z f 0 := by rw [← hM2]; exact row_set r_8
  have rw9 : M1 (p + 9) = G := by rw [← hM2]; exact (m_s_a (of_ne (by decide))).trans r_9
  refine go_iload_n X d_Machine_dropOperations_14 rfl rfl ?_
  refine go_iret X d_Machine_dropOperations_15 rfl ?_ (by omega) (by omega) ?_
  · rfl
  · exact ⟨rfl, rfl, rfl, hh.upd (fun j _ _ => congrFun (fr5 p (by omega)) j) (fun z q1 q2 => fr5 z (by omega)) (rw6) (rw7) (rw8) (rw9), fr5⟩
set_option maxHeartbeats 4000000 in
set_option maxRecDepth 100000 in
theorem c_Machine_operationsDone (l : Launch) (D : va_G) {sh : s_S} {M : s_M} {sz p s c k g_ w : Int} {O Q Z G : Int → Int} (h : mcv sh M p s c k g_ w O Q Z G) {v : Int} (hv : M p 16 = v) : Sp l D y_Machine_operationsDone prog_5_method_7_code 1 (some .int) 1 0 0 [vr p] sh M sz (pF (some (vi v)) sh M sz) := by
  have hh := h
  have h1 := h.1
  have h7 : 0 ≤ p := h.2.2.2.2.2.2
  refine Sp.ofGo (own := "CiteForge$Machine") (nm := "operationsDone") (by decide) rfl rfl (Nat.le_of_ble_eq_true rfl) (lv := [(0, vr p)]) rfl ?_
  intro g X
  refine go_aload_n X d_Machine_operationsDone_0 rfl rfl ?_
  refine go_get (v := vi v) X f_Machine_82 h1 rfl d_Machine_operationsDone_1 (congrArg (s_v .int) hv) ?_
  refine go_iret X d_Machine_operationsDone_4 rfl ?_ (by omega) (by omega) ?_
  · rfl
  · exact ⟨rfl, rfl, rfl, rfl⟩
set_option maxHeartbeats 4000000 in
set_option maxRecDepth 100000 in
theorem c_Machine_runFunction0 (l : Launch) (D : va_G) {sh : s_S} {M : s_M} {sz p s c k g_ w : Int} {O Q Z G : Int → Int} (h : mcv sh M p s c k g_ w O Q Z G) {f : Int} (hf : 0 ≤ f ∧ f < 6) (hZ : Z f = 0) : Sp l D y_Machine_runFunction prog_5_method_9_code 8 (some .boolean) 1 0 0 [vr p, vl f, vi 1] sh M sz (pF (some (vi 1)) sh M sz) := by
  have hh := h
  have h1 := h.1
  have h7 : 0 ≤ p := h.2.2.2.2.2.2
  have c_sizes := h.2.2.2.1.2.2.2.1
  have s_8 := h.2.1.2.2.1
  have r_8 := h.2.2.2.2.2.1.2.2.1
  refine Sp.ofGo (own := "CiteForge$Machine") (nm := "runFunction") (by decide) rfl rfl (Nat.le_of_ble_eq_true rfl) (lv := [(0, vr p), (1, vl f), (3, vi 1)]) rfl ?_
  intro g X
  refine go_iload_n X d_Machine_runFunction_0 rfl rfl ?_
  refine go_bipush (v := 8) X d_Machine_runFunction_1 (by decide) ?_
  refine go_icmp_le (tgt := 8) X d_Machine_runFunction_3 rfl (by omega) (by omega) (fun hq1 => ?_) (fun hq1 => ?_)
  · skip
    refine go_lload_n X d_Machine_runFunction_8 rfl rfl ?_
    refine go_l2i X d_Machine_runFunction_9 ?_
    refine go_bipush (v := 24) X d_Machine_runFunction_10 (by decide) ?_
    refine go_imul X d_Machine_runFunction_12 ?_
    refine go_istore (lv' := [(4, vi (f * 24)), (0, vr p), (1, vl f), (3, vi 1)]) X d_Machine_runFunction_13 (by decide) rfl ?_
    refine go_iload X d_Machine_runFunction_15 rfl ?_
    refine go_aload_n X d_Machine_runFunction_17 rfl rfl ?_
    refine go_get (v := vr (p + 8)) X f_Machine_45 h1 rfl d_Machine_runFunction_18 (s_varr c_sizes (by omega)) ?_
    refine go_lload_n X d_Machine_runFunction_21 rfl rfl ?_
    refine go_l2i X d_Machine_runFunction_22 ?_
    refine go_iald X s_8 (by omega) (by omega) d_Machine_runFunction_23 ?_
    refine go_top (v' := vi (Z f)) X (by rw [r_8]) ?_
    refine go_iadd X d_Machine_runFunction_24 ?_
    refine go_istore (lv' := [(5, vi ((f * 24) + (Z f))), (4, vi (f * 24)), (0, vr p), (1, vl f), (3, vi 1)]) X d_Machine_runFunction_25 (by decide) rfl ?_
    refine go_iload X d_Machine_runFunction_27 rfl ?_
    refine go_istore (lv' := [(6, vi (f * 24)), (5, vi ((f * 24) + (Z f))), (4, vi (f * 24)), (0, vr p), (1, vl f), (3, vi 1)]) X d_Machine_runFunction_29 (by decide) rfl ?_
    refine go_iload X d_Machine_runFunction_31 rfl ?_
    refine go_iload X d_Machine_runFunction_33 rfl ?_
    refine go_icmp_ge (tgt := 165) X d_Machine_runFunction_35 rfl (by omega) (by omega) (fun hq2 => ?_) (fun hq2 => ?_)
    · skip
      refine go_iconst (v := 1) X d_Machine_runFunction_165 ?_
      refine go_iret X d_Machine_runFunction_166 rfl ?_ (by omega) (by omega) ?_
      · rfl
      · exact ⟨rfl, rfl, rfl, rfl⟩
    · skip
      exfalso
      omega
  · skip
    exfalso
    omega
set_option maxHeartbeats 4000000 in
set_option maxRecDepth 100000 in
theorem c_Machine_start0 (l : Launch) (D : va_G) {sh : s_S} {M : s_M} {sz p s c k g_ w : Int} {O Q Z G : Int → Int} (h : mcv sh M p s c k g_ w O Q Z G) {f y n m : Int} {W L : Int → Int} (hf : 0 ≤ f ∧ f < 6) (hZ : Z f = 0) (hy : 0 ≤ y ∧ y ≤ 2) (hci0 : civ sh M c s w n m W L) (hm0 : m = 0) (hcp : c + 3 ≤ p) : Sp l D y_Machine_start prog_5_method_8_code 5 (some .boolean) 2 0 0 [vr p, vi f, vi y] sh M sz (fun v' sh' M' sz' => v' = some (vi 1) ∧ sh' = sh ∧ sz' = sz ∧ mcv sh M' p s c k g_ w O Q Z G ∧ M' p 16 = 0 ∧ fr (fun z => z = p) M M') := by
  have hh := h
  have h1 := h.1
  have h7 : 0 ≤ p := h.2.2.2.2.2.2
  have c_citations := h.2.2.1.2.1
  have hc0 : 0 ≤ c := hci0.2.2.2.2.2.2.2.2.2.2.2.2.1
  refine Sp.ofGo (own := "CiteForge$Machine") (nm := "start") (by decide) rfl rfl (Nat.le_of_ble_eq_true rfl) (lv := [(0, vr p), (1, vi f), (2, vi y)]) rfl ?_
  intro g X
  refine go_aload_n X d_Machine_start_0 rfl rfl ?_
  refine go_iconst (v := 0) X d_Machine_start_1 ?_
  refine go_put (x := 0) (v := vi 0) X f_Machine_82 h1 rfl d_Machine_start_2 rfl rfl rfl ?_
  generalize hM2 : m_s M p 16 0 = M1
  have e3 : M1 p 1 = c := by rw [← hM2]; exact (m_s_n (fun q => absurd q.2 (by decide))).trans c_citations
  have e4 : M1 p 16 = 0 := by rw [← hM2, m_s_s]
  have fr5 : fr (fun z => z = p) M M1 := fun z hz => by
    have hz1 : ¬ (z = p) := hz
    rw [← hM2]; exact (m_s_a (by omega))
  refine go_aload_n X d_Machine_start_5 rfl rfl ?_
  refine go_null X d_Machine_start_6 ?_
  refine go_put (x := (-1)) (v := .null) X f_Machine_86 h1 rfl d_Machine_start_7 (s_vnull (by omega)) rfl rfl ?_
  generalize hM7 : m_s M1 p 15 (-1) = M6
  have e8 : M6 p 1 = c := by rw [← hM7]; exact (m_s_n (fun q => absurd q.2 (by decide))).trans e3
  have e9 : M6 p 16 = 0 := by rw [← hM7]; exact (m_s_n (fun q => absurd q.2 (by decide))).trans e4
  have e10 : M6 p 15 = (-1) := by rw [← hM7, m_s_s]
  have fr11 : fr (fun z => z = p) M M6 := fun z hz => by
    have hz1 : ¬ (z = p) := hz
    rw [← hM7]; exact (m_s_a (by omega)).trans (fr5 z hz)
  clear e3 e4 fr5
  refine go_iload_n X d_Machine_start_10 rfl rfl ?_
  refine go_if_ne (tgt := 22) X d_Machine_start_11 rfl (by omega) (fun hq12 => ?_) (fun hq12 => ?_)
  · skip
    refine go_aload_n X d_Machine_start_22 rfl rfl ?_
    refine go_get (v := vr c) X f_Machine_15 h1 rfl d_Machine_start_23 (s_vref e8 (by omega)) ?_
    have hp9 : ∀ j : Int, j ≠ 15 → j ≠ 16 → M6 p j = M p j := fun j q1 q2 => by rw [← hM7, m_s_n (by omega), ← hM2, m_s_n (by omega)]
    have hmc : mcv sh M6 p s c k g_ w O Q Z G := hh.upd (hp9) (fun z q1 q2 => fr11 z (by omega)) ((fr11 (p + 6) (by omega)).trans h.2.2.2.2.2.1.1) ((fr11 (p + 7) (by omega)).trans h.2.2.2.2.2.1.2.1) ((fr11 (p + 8) (by omega)).trans h.2.2.2.2.2.1.2.2.1) ((fr11 (p + 9) (by omega)).trans h.2.2.2.2.2.1.2.2.2)
    have hci := hci0.mv (sh' := sh) (M' := M6) (fun z q1 q2 => ⟨rfl, fr11 z (by omega)⟩) rfl
    refine go_cVf (st2 := [vi m]) (r := []) X k_Machine_94 (c_Citations_listSize l D hci) hci.1 rfl rfl (by omega) (Nat.le_of_ble_eq_true rfl) d_Machine_start_26 (by omega) (by omega) rfl ?_
    refine go_istore_n (lv' := [(3, vi m), (0, vr p), (1, vi f), (2, vi y)]) X d_Machine_start_29 rfl (by decide) rfl ?_
    refine go_iconst (v := 0) X d_Machine_start_30 ?_
    refine go_istore (lv' := [(4, vi 0), (3, vi m), (0, vr p), (1, vi f), (2, vi y)]) X d_Machine_start_31 (by decide) rfl ?_
    refine go_iload X d_Machine_start_33 rfl ?_
    refine go_iload_n X d_Machine_start_35 rfl rfl ?_
    refine go_icmp_ge (tgt := 84) X d_Machine_start_36 rfl (by omega) (by omega) (fun hq13 => ?_) (fun hq13 => ?_)
    · skip
      refine go_iconst (v := 1) X d_Machine_start_84 ?_
      refine go_iret X d_Machine_start_85 rfl ?_ (by omega) (by omega) ?_
      · rfl
      exact ⟨rfl, rfl, rfl, hmc, e9, fr11⟩
    · skip
      exfalso
      omega
  · skip
    refine go_aload_n X d_Machine_start_14 rfl rfl ?_
    refine go_iload_n X d_Machine_start_15 rfl rfl ?_
    refine go_i2l X d_Machine_start_16 (by omega) ?_
    refine go_iconst (v := 1) X d_Machine_start_17 ?_
    have hp9 : ∀ j : Int, j ≠ 15 → j ≠ 16 → M6 p j = M p j := fun j q1 q2 => by rw [← hM7, m_s_n (by omega), ← hM2, m_s_n (by omega)]
    have hmc : mcv sh M6 p s c k g_ w O Q Z G := hh.upd (hp9) (fun z q1 q2 => fr11 z (by omega)) ((fr11 (p + 6) (by omega)).trans h.2.2.2.2.2.1.1) ((fr11 (p + 7) (by omega)).trans h.2.2.2.2.2.1.2.1) ((fr11 (p + 8) (by omega)).trans h.2.2.2.2.2.1.2.2.1) ((fr11 (p + 9) (by omega)).trans h.2.2.2.2.2.1.2.2.2)
    refine go_cVf (st2 := [vi 1]) (r := []) X k_Machine_90 (c_Machine_runFunction0 l D hmc (by omega) hZ) h1 rfl rfl (by omega) (Nat.le_of_ble_eq_true rfl) d_Machine_start_18 (by omega) (by omega) rfl ?_
    refine go_iret X d_Machine_start_21 rfl ?_ (by omega) (by omega) ?_
    · rfl
    exact ⟨rfl, rfl, rfl, hmc, e9, fr11⟩
