/-! Value: at v, its text at v + 1, the text's chars at v + 2. -/
def vv (sh : s_S) (M : s_M) (v k n : Int) (t : List Int) : Prop := sh v = some (.inl (5, ts_Value)) ∧ M v 2 = v + 1 ∧ tv sh M (v + 1) 60 t ∧ M v 0 = k ∧ M v 1 = n ∧ 0 ≤ v ∧ (-2147483648 ≤ n ∧ n < 2147483648) ∧ (0 ≤ k ∧ k ≤ 2)
theorem vv.kept {sh : s_S} {M M' : s_M} {v k n : Int} {t : List Int} (h : vv sh M v k n t) (h0 : M' v = M v) (h1 : M' (v + 1) = M (v + 1)) (h2 : M' (v + 2) = M (v + 2)) : vv sh M' v k n t := by
  obtain ⟨q1, q2, q3, q4, q5, q6, q7, q8⟩ := h
  have e : v + 1 + 1 = v + 2 := by omega
  refine ⟨q1, ?_, q3.kept h1 (by rw [e]; exact h2), ?_, ?_, q6, q7, q8⟩
  · rw [h0]; exact q2
  · rw [h0]; exact q4
  · rw [h0]; exact q5
theorem take60 {t : List Int} (h : t.length ≤ 60) : t.take 60 = t := List.take_of_length_le h
set_option maxHeartbeats 4000000 in
set_option maxRecDepth 100000 in
theorem c_Value_isNumber (l : Launch) (D : va_G) {sh : s_S} {M : s_M} {sz v k n : Int} {t : List Int} (h : vv sh M v k n t) : Sp l D y_Value_isNumber prog_12_method_6_code 1 (some .boolean) 1 0 0 [vr v] sh M sz (pF (some (vi (s_b (decide (k = 0))))) sh M sz) := by
  have hln := h.2.2.1.len
  obtain ⟨h1, h2, h3, h4, h5, h6, h7, h8⟩ := h
  refine Sp.ofGo (own := "CiteForge$Value") (nm := "isNumber") (by decide) rfl rfl (Nat.le_of_ble_eq_true rfl) (lv := [(0, vr v)]) rfl ?_
  intro g X
  refine go_aload_n X d_Value_isNumber_0 rfl rfl ?_
  refine go_get (v := vi k) X f_Value_20 h1 rfl d_Value_isNumber_1 (congrArg (s_v .int) h4) ?_
  refine go_if_ne (tgt := 11) X d_Value_isNumber_4 rfl (by omega) (fun hq1 => ?_) (fun hq1 => ?_)
  · skip
    refine go_iconst (v := 0) X d_Value_isNumber_11 ?_
    refine go_iret X d_Value_isNumber_12 rfl ?_ (by omega) (by omega) ?_
    · rfl
    · refine ⟨?_, rfl, rfl, rfl⟩
      have hb : decide (k = 0) = false := by simp only [decide_eq_true_eq, decide_eq_false_iff_not]; omega
      rw [hb]; rfl
  · skip
    refine go_iconst (v := 1) X d_Value_isNumber_7 ?_
    refine go_goto (tgt := 12) X d_Value_isNumber_8 rfl ?_
    refine go_iret X d_Value_isNumber_12 rfl ?_ (by omega) (by omega) ?_
    · rfl
    · refine ⟨?_, rfl, rfl, rfl⟩
      have hb : decide (k = 0) = true := by simp only [decide_eq_true_eq, decide_eq_false_iff_not]; omega
      rw [hb]; rfl
set_option maxHeartbeats 4000000 in
set_option maxRecDepth 100000 in
theorem c_Value_setToNumber (l : Launch) (D : va_G) {sh : s_S} {M : s_M} {sz v k n : Int} {t : List Int} (h : vv sh M v k n t) {q : Int} (hq : -2147483648 ≤ q ∧ q < 2147483648) : Sp l D y_Value_setToNumber prog_12_method_2_code 2 none 2 0 0 [vr v, vi q] sh M sz (fun w sh' M' sz' => w = none ∧ sh' = sh ∧ sz' = sz ∧ vv sh M' v 0 q ([]) ∧ fr (fun z => v ≤ z ∧ z ≤ v + 2) M M') := by
  have hln := h.2.2.1.len
  obtain ⟨h1, h2, h3, h4, h5, h6, h7, h8⟩ := h
  refine Sp.ofGo (own := "CiteForge$Value") (nm := "setToNumber") (by decide) rfl rfl (Nat.le_of_ble_eq_true rfl) (lv := [(0, vr v), (1, vi q)]) rfl ?_
  intro g X
  refine go_aload_n X d_Value_setToNumber_0 rfl rfl ?_
  refine go_iconst (v := 0) X d_Value_setToNumber_1 ?_
  refine go_put (x := 0) (v := vi 0) X f_Value_20 h1 rfl d_Value_setToNumber_2 rfl rfl rfl ?_
  generalize hM2 : m_s M v 0 0 = M1
  have e3 : M1 v 1 = n := by rw [← hM2]; exact (m_s_n (by omega)).trans h5
  have e4 : M1 v 2 = v + 1 := by rw [← hM2]; exact (m_s_n (by omega)).trans h2
  have e5 : M1 v 0 = 0 := by rw [← hM2, m_s_s]
  have tv6 := h3.kept (M' := M1) (by rw [← hM2]; exact m_s_a (by omega)) (by rw [← hM2]; exact m_s_a (by omega))
  have fr7 : fr (fun z => v ≤ z ∧ z ≤ v + 2) M M1 := fun z hz => by
    have hz1 : ¬ (v ≤ z ∧ z ≤ v + 2) := hz
    rw [← hM2]; exact (m_s_a (by omega))
  refine go_aload_n X d_Value_setToNumber_5 rfl rfl ?_
  refine go_iload_n X d_Value_setToNumber_6 rfl rfl ?_
  refine go_put (x := q) (v := vi q) X f_Value_24 h1 rfl d_Value_setToNumber_7 rfl rfl rfl ?_
  generalize hM9 : m_s M1 v 1 q = M8
  have e10 : M8 v 2 = v + 1 := by rw [← hM9]; exact (m_s_n (by omega)).trans e4
  have e11 : M8 v 0 = 0 := by rw [← hM9]; exact (m_s_n (by omega)).trans e5
  have e12 : M8 v 1 = q := by rw [← hM9, m_s_s]
  have tv13 := tv6.kept (M' := M8) (by rw [← hM9]; exact m_s_a (by omega)) (by rw [← hM9]; exact m_s_a (by omega))
  have fr14 : fr (fun z => v ≤ z ∧ z ≤ v + 2) M M8 := fun z hz => by
    have hz1 : ¬ (v ≤ z ∧ z ≤ v + 2) := hz
    rw [← hM9]; exact (m_s_a (by omega)).trans (fr7 z hz)
  refine go_aload_n X d_Value_setToNumber_10 rfl rfl ?_
  refine go_get (v := vr (v + 1)) X f_Value_14 h1 rfl d_Value_setToNumber_11 (s_vref e10 (by omega)) ?_
  refine go_cV (st2 := []) (r := []) X k_Value_27 (k_Text_reset l D tv13) h3.1.1 rfl rfl (by omega) (Nat.le_of_ble_eq_true rfl) d_Value_setToNumber_14 (by omega) (by omega) (fun v sh' M15 sz' hp16 => ?_)
  obtain ⟨e17, e18, e19, tv20, fr21⟩ := hp16
  subst e17
  rw [e18, e19]
  show Go g 0 0 sh M15 sz 17 [(0, vr v), (1, vi q)] []
  have e22 : M15 v 2 = v + 1 := (congrFun (fr21 v (by omega)) _).trans e10
  have e23 : M15 v 0 = 0 := (congrFun (fr21 v (by omega)) _).trans e11
  have e24 : M15 v 1 = q := (congrFun (fr21 v (by omega)) _).trans e12
  have fr25 : fr (fun z => v ≤ z ∧ z ≤ v + 2) M M15 := fun z hz => by
    have hz1 : ¬ (v ≤ z ∧ z ≤ v + 2) := hz
    exact (fr21 z (by omega)).trans (fr14 z hz)
  refine go_vret X d_Value_setToNumber_17 rfl (by omega) (by omega) ?_
  exact ⟨rfl, rfl, rfl, ⟨h1, e22, tv20, e23, e24, h6, hq, (by decide)⟩, fr25⟩
set_option maxHeartbeats 4000000 in
set_option maxRecDepth 100000 in
theorem c_Value_setToMissing (l : Launch) (D : va_G) {sh : s_S} {M : s_M} {sz v k n : Int} {t : List Int} (h : vv sh M v k n t) : Sp l D y_Value_setToMissing prog_12_method_4_code 1 none 2 0 0 [vr v] sh M sz (fun w sh' M' sz' => w = none ∧ sh' = sh ∧ sz' = sz ∧ vv sh M' v 2 0 ([]) ∧ fr (fun z => v ≤ z ∧ z ≤ v + 2) M M') := by
  have hln := h.2.2.1.len
  obtain ⟨h1, h2, h3, h4, h5, h6, h7, h8⟩ := h
  refine Sp.ofGo (own := "CiteForge$Value") (nm := "setToMissing") (by decide) rfl rfl (Nat.le_of_ble_eq_true rfl) (lv := [(0, vr v)]) rfl ?_
  intro g X
  refine go_aload_n X d_Value_setToMissing_0 rfl rfl ?_
  refine go_iconst (v := 2) X d_Value_setToMissing_1 ?_
  refine go_put (x := 2) (v := vi 2) X f_Value_20 h1 rfl d_Value_setToMissing_2 rfl rfl rfl ?_
  generalize hM2 : m_s M v 0 2 = M1
  have e3 : M1 v 1 = n := by rw [← hM2]; exact (m_s_n (by omega)).trans h5
  have e4 : M1 v 2 = v + 1 := by rw [← hM2]; exact (m_s_n (by omega)).trans h2
  have e5 : M1 v 0 = 2 := by rw [← hM2, m_s_s]
  have tv6 := h3.kept (M' := M1) (by rw [← hM2]; exact m_s_a (by omega)) (by rw [← hM2]; exact m_s_a (by omega))
  have fr7 : fr (fun z => v ≤ z ∧ z ≤ v + 2) M M1 := fun z hz => by
    have hz1 : ¬ (v ≤ z ∧ z ≤ v + 2) := hz
    rw [← hM2]; exact (m_s_a (by omega))
  refine go_aload_n X d_Value_setToMissing_5 rfl rfl ?_
  refine go_iconst (v := 0) X d_Value_setToMissing_6 ?_
  refine go_put (x := 0) (v := vi 0) X f_Value_24 h1 rfl d_Value_setToMissing_7 rfl rfl rfl ?_
  generalize hM9 : m_s M1 v 1 0 = M8
  have e10 : M8 v 2 = v + 1 := by rw [← hM9]; exact (m_s_n (by omega)).trans e4
  have e11 : M8 v 0 = 2 := by rw [← hM9]; exact (m_s_n (by omega)).trans e5
  have e12 : M8 v 1 = 0 := by rw [← hM9, m_s_s]
  have tv13 := tv6.kept (M' := M8) (by rw [← hM9]; exact m_s_a (by omega)) (by rw [← hM9]; exact m_s_a (by omega))
  have fr14 : fr (fun z => v ≤ z ∧ z ≤ v + 2) M M8 := fun z hz => by
    have hz1 : ¬ (v ≤ z ∧ z ≤ v + 2) := hz
    rw [← hM9]; exact (m_s_a (by omega)).trans (fr7 z hz)
  refine go_aload_n X d_Value_setToMissing_10 rfl rfl ?_
  refine go_get (v := vr (v + 1)) X f_Value_14 h1 rfl d_Value_setToMissing_11 (s_vref e10 (by omega)) ?_
  refine go_cV (st2 := []) (r := []) X k_Value_27 (k_Text_reset l D tv13) h3.1.1 rfl rfl (by omega) (Nat.le_of_ble_eq_true rfl) d_Value_setToMissing_14 (by omega) (by omega) (fun v sh' M15 sz' hp16 => ?_)
  obtain ⟨e17, e18, e19, tv20, fr21⟩ := hp16
  subst e17
  rw [e18, e19]
  show Go g 0 0 sh M15 sz 17 [(0, vr v)] []
  have e22 : M15 v 2 = v + 1 := (congrFun (fr21 v (by omega)) _).trans e10
  have e23 : M15 v 0 = 2 := (congrFun (fr21 v (by omega)) _).trans e11
  have e24 : M15 v 1 = 0 := (congrFun (fr21 v (by omega)) _).trans e12
  have fr25 : fr (fun z => v ≤ z ∧ z ≤ v + 2) M M15 := fun z hz => by
    have hz1 : ¬ (v ≤ z ∧ z ≤ v + 2) := hz
    exact (fr21 z (by omega)).trans (fr14 z hz)
  refine go_vret X d_Value_setToMissing_17 rfl (by omega) (by omega) ?_
  exact ⟨rfl, rfl, rfl, ⟨h1, e22, tv20, e23, e24, h6, (by decide), (by decide)⟩, fr25⟩
set_option maxHeartbeats 4000000 in
set_option maxRecDepth 100000 in
theorem c_Value_setToText (l : Launch) (D : va_G) {sh : s_S} {M : s_M} {sz v k n : Int} {t : List Int} (h : vv sh M v k n t) {b : Int} {K : Nat} {u : List Int} (hb : tv sh M b K u) (hne : b ≠ v + 1 ∧ b ≠ v ∧ b + 1 ≠ v) : Sp l D y_Value_setToText prog_12_method_3_code 2 none 3 0 0 [vr v, vr b] sh M sz (fun w sh' M' sz' => w = none ∧ sh' = sh ∧ sz' = sz ∧ vv sh M' v 1 0 (u.take 60) ∧ fr (fun z => v ≤ z ∧ z ≤ v + 2) M M') := by
  have hln := h.2.2.1.len
  obtain ⟨h1, h2, h3, h4, h5, h6, h7, h8⟩ := h
  have ho1 := h3.off hb
  have ho2 := hb.off h3
  refine Sp.ofGo (own := "CiteForge$Value") (nm := "setToText") (by decide) rfl rfl (Nat.le_of_ble_eq_true rfl) (lv := [(0, vr v), (1, vr b)]) rfl ?_
  intro g X
  refine go_aload_n X d_Value_setToText_0 rfl rfl ?_
  refine go_iconst (v := 1) X d_Value_setToText_1 ?_
  refine go_put (x := 1) (v := vi 1) X f_Value_20 h1 rfl d_Value_setToText_2 rfl rfl rfl ?_
  generalize hM2 : m_s M v 0 1 = M1
  have e3 : M1 v 1 = n := by rw [← hM2]; exact (m_s_n (by omega)).trans h5
  have e4 : M1 v 2 = v + 1 := by rw [← hM2]; exact (m_s_n (by omega)).trans h2
  have e5 : M1 v 0 = 1 := by rw [← hM2, m_s_s]
  have tv6 := h3.kept (M' := M1) (by rw [← hM2]; exact m_s_a (by omega)) (by rw [← hM2]; exact m_s_a (by omega))
  have tv7 := hb.kept (M' := M1) (by rw [← hM2]; exact m_s_a (by omega)) (by rw [← hM2]; exact m_s_a (by omega))
  have fr8 : fr (fun z => v ≤ z ∧ z ≤ v + 2) M M1 := fun z hz => by
    have hz1 : ¬ (v ≤ z ∧ z ≤ v + 2) := hz
    rw [← hM2]; exact (m_s_a (by omega))
  refine go_aload_n X d_Value_setToText_5 rfl rfl ?_
  refine go_iconst (v := 0) X d_Value_setToText_6 ?_
  refine go_put (x := 0) (v := vi 0) X f_Value_24 h1 rfl d_Value_setToText_7 rfl rfl rfl ?_
  generalize hM10 : m_s M1 v 1 0 = M9
  have e11 : M9 v 2 = v + 1 := by rw [← hM10]; exact (m_s_n (by omega)).trans e4
  have e12 : M9 v 0 = 1 := by rw [← hM10]; exact (m_s_n (by omega)).trans e5
  have e13 : M9 v 1 = 0 := by rw [← hM10, m_s_s]
  have tv14 := tv6.kept (M' := M9) (by rw [← hM10]; exact m_s_a (by omega)) (by rw [← hM10]; exact m_s_a (by omega))
  have tv15 := tv7.kept (M' := M9) (by rw [← hM10]; exact m_s_a (by omega)) (by rw [← hM10]; exact m_s_a (by omega))
  have fr16 : fr (fun z => v ≤ z ∧ z ≤ v + 2) M M9 := fun z hz => by
    have hz1 : ¬ (v ≤ z ∧ z ≤ v + 2) := hz
    rw [← hM10]; exact (m_s_a (by omega)).trans (fr8 z hz)
  refine go_aload_n X d_Value_setToText_10 rfl rfl ?_
  refine go_get (v := vr (v + 1)) X f_Value_14 h1 rfl d_Value_setToText_11 (s_vref e11 (by omega)) ?_
  refine go_aload_n X d_Value_setToText_14 rfl rfl ?_
  refine go_cV (st2 := []) (r := []) X k_Value_30 (c_Text_setTo l D tv14 tv15 (by omega)) h3.1.1 rfl rfl (by omega) (Nat.le_of_ble_eq_true rfl) d_Value_setToText_15 (by omega) (by omega) (fun v sh' M17 sz' hp18 => ?_)
  obtain ⟨e19, e20, e21, tv22, fr23⟩ := hp18
  subst e19
  rw [e20, e21]
  show Go g 0 0 sh M17 sz 18 [(0, vr v), (1, vr b)] []
  have e24 : M17 v 2 = v + 1 := (congrFun (fr23 v (by omega)) _).trans e11
  have e25 : M17 v 0 = 1 := (congrFun (fr23 v (by omega)) _).trans e12
  have e26 : M17 v 1 = 0 := (congrFun (fr23 v (by omega)) _).trans e13
  have tv27 := tv15.kept (fr23 b (by omega)) (fr23 (b + 1) (by omega))
  have fr28 : fr (fun z => v ≤ z ∧ z ≤ v + 2) M M17 := fun z hz => by
    have hz1 : ¬ (v ≤ z ∧ z ≤ v + 2) := hz
    exact (fr23 z (by omega)).trans (fr16 z hz)
  refine go_vret X d_Value_setToText_18 rfl (by omega) (by omega) ?_
  exact ⟨rfl, rfl, rfl, ⟨h1, e24, tv22, e25, e26, h6, (by decide), (by decide)⟩, fr28⟩
set_option maxHeartbeats 4000000 in
set_option maxRecDepth 100000 in
theorem c_Value_setTo (l : Launch) (D : va_G) {sh : s_S} {M : s_M} {sz v k n : Int} {t : List Int} (h : vv sh M v k n t) {b k' n' : Int} {u : List Int} (hb : vv sh M b k' n' u) (hne : b + 2 < v ∨ v + 2 < b) : Sp l D y_Value_setTo prog_12_method_5_code 2 none 3 0 0 [vr v, vr b] sh M sz (fun w sh' M' sz' => w = none ∧ sh' = sh ∧ sz' = sz ∧ vv sh M' v k' n' u ∧ fr (fun z => v ≤ z ∧ z ≤ v + 2) M M') := by
  have hln := h.2.2.1.len
  obtain ⟨h1, h2, h3, h4, h5, h6, h7, h8⟩ := h
  have hln' := hb.2.2.1.len
  obtain ⟨p1, p2, p3, p4, p5, p6, p7, p8⟩ := hb
  refine Sp.ofGo (own := "CiteForge$Value") (nm := "setTo") (by decide) rfl rfl (Nat.le_of_ble_eq_true rfl) (lv := [(0, vr v), (1, vr b)]) rfl ?_
  intro g X
  refine go_aload_n X d_Value_setTo_0 rfl rfl ?_
  refine go_aload_n X d_Value_setTo_1 rfl rfl ?_
  refine go_get (v := vi k') X f_Value_20 p1 rfl d_Value_setTo_2 (congrArg (s_v .int) p4) ?_
  refine go_put (x := k') (v := vi k') X f_Value_20 h1 rfl d_Value_setTo_5 rfl rfl rfl ?_
  generalize hM2 : m_s M v 0 k' = M1
  have e3 : M1 v 1 = n := by rw [← hM2]; exact (m_s_n (by omega)).trans h5
  have e4 : M1 v 2 = v + 1 := by rw [← hM2]; exact (m_s_n (by omega)).trans h2
  have e5 : M1 b 0 = k' := by rw [← hM2]; exact (m_s_n (by omega)).trans p4
  have e6 : M1 b 1 = n' := by rw [← hM2]; exact (m_s_n (by omega)).trans p5
  have e7 : M1 b 2 = b + 1 := by rw [← hM2]; exact (m_s_n (by omega)).trans p2
  have e8 : M1 v 0 = k' := by rw [← hM2, m_s_s]
  have tv9 := h3.kept (M' := M1) (by rw [← hM2]; exact m_s_a (by omega)) (by rw [← hM2]; exact m_s_a (by omega))
  have tv10 := p3.kept (M' := M1) (by rw [← hM2]; exact m_s_a (by omega)) (by rw [← hM2]; exact m_s_a (by omega))
  have fr11 : fr (fun z => v ≤ z ∧ z ≤ v + 2) M M1 := fun z hz => by
    have hz1 : ¬ (v ≤ z ∧ z ≤ v + 2) := hz
    rw [← hM2]; exact (m_s_a (by omega))
  refine go_aload_n X d_Value_setTo_8 rfl rfl ?_
  refine go_aload_n X d_Value_setTo_9 rfl rfl ?_
  refine go_get (v := vi n') X f_Value_24 p1 rfl d_Value_setTo_10 (congrArg (s_v .int) e6) ?_
  refine go_put (x := n') (v := vi n') X f_Value_24 h1 rfl d_Value_setTo_13 rfl rfl rfl ?_
  generalize hM13 : m_s M1 v 1 n' = M12
  have e14 : M12 v 2 = v + 1 := by rw [← hM13]; exact (m_s_n (by omega)).trans e4
  have e15 : M12 b 0 = k' := by rw [← hM13]; exact (m_s_n (by omega)).trans e5
  have e16 : M12 b 1 = n' := by rw [← hM13]; exact (m_s_n (by omega)).trans e6
  have e17 : M12 b 2 = b + 1 := by rw [← hM13]; exact (m_s_n (by omega)).trans e7
  have e18 : M12 v 0 = k' := by rw [← hM13]; exact (m_s_n (by omega)).trans e8
  have e19 : M12 v 1 = n' := by rw [← hM13, m_s_s]
  have tv20 := tv9.kept (M' := M12) (by rw [← hM13]; exact m_s_a (by omega)) (by rw [← hM13]; exact m_s_a (by omega))
  have tv21 := tv10.kept (M' := M12) (by rw [← hM13]; exact m_s_a (by omega)) (by rw [← hM13]; exact m_s_a (by omega))
  have fr22 : fr (fun z => v ≤ z ∧ z ≤ v + 2) M M12 := fun z hz => by
    have hz1 : ¬ (v ≤ z ∧ z ≤ v + 2) := hz
    rw [← hM13]; exact (m_s_a (by omega)).trans (fr11 z hz)
  refine go_aload_n X d_Value_setTo_16 rfl rfl ?_
  refine go_get (v := vr (v + 1)) X f_Value_14 h1 rfl d_Value_setTo_17 (s_vref e14 (by omega)) ?_
  refine go_aload_n X d_Value_setTo_20 rfl rfl ?_
  refine go_get (v := vr (b + 1)) X f_Value_14 p1 rfl d_Value_setTo_21 (s_vref e17 (by omega)) ?_
  refine go_cV (st2 := []) (r := []) X k_Value_30 (c_Text_setTo l D tv20 tv21 (by omega)) h3.1.1 rfl rfl (by omega) (Nat.le_of_ble_eq_true rfl) d_Value_setTo_24 (by omega) (by omega) (fun v sh' M23 sz' hp24 => ?_)
  obtain ⟨e25, e26, e27, tv28, fr29⟩ := hp24
  subst e25
  rw [e26, e27]
  show Go g 0 0 sh M23 sz 27 [(0, vr v), (1, vr b)] []
  have e30 : M23 v 2 = v + 1 := (congrFun (fr29 v (by omega)) _).trans e14
  have e31 : M23 b 0 = k' := (congrFun (fr29 b (by omega)) _).trans e15
  have e32 : M23 b 1 = n' := (congrFun (fr29 b (by omega)) _).trans e16
  have e33 : M23 b 2 = b + 1 := (congrFun (fr29 b (by omega)) _).trans e17
  have e34 : M23 v 0 = k' := (congrFun (fr29 v (by omega)) _).trans e18
  have e35 : M23 v 1 = n' := (congrFun (fr29 v (by omega)) _).trans e19
  have tv36 := tv21.kept (fr29 (b + 1) (by omega)) (fr29 (b + 1 + 1) (by omega))
  have fr37 : fr (fun z => v ≤ z ∧ z ≤ v + 2) M M23 := fun z hz => by
    have hz1 : ¬ (v ≤ z ∧ z ≤ v + 2) := hz
    exact (fr29 z (by omega)).trans (fr22 z hz)
  refine go_vret X d_Value_setTo_27 rfl (by omega) (by omega) ?_
  have e9 := take60 hln'.1
  have t9 := tv28
  rw [e9] at t9
  exact ⟨rfl, rfl, rfl, ⟨h1, e30, t9, e34, e35, h6, p7, p8⟩, fr37⟩
set_option maxHeartbeats 4000000 in
set_option maxRecDepth 100000 in
theorem c_Value_isNothing (l : Launch) (D : va_G) {sh : s_S} {M : s_M} {sz v k n : Int} {t : List Int} (h : vv sh M v k n t) : Sp l D y_Value_isNothing prog_12_method_8_code 1 (some .boolean) 3 0 0 [vr v] sh M sz (pF (some (vi (s_b (!decide (k = 0) && allT p_bl t)))) sh M sz) := by
  have h0 := h
  have hln := h.2.2.1.len
  obtain ⟨h1, h2, h3, h4, h5, h6, h7, h8⟩ := h
  refine Sp.ofGo (own := "CiteForge$Value") (nm := "isNothing") (by decide) rfl rfl (Nat.le_of_ble_eq_true rfl) (lv := [(0, vr v)]) rfl ?_
  intro g X
  refine go_aload_n X d_Value_isNothing_0 rfl rfl ?_
  refine go_cVf (st2 := [vi (s_b (decide (k = 0)))]) (r := []) X k_Value_34 (c_Value_isNumber l D h0) h1 rfl rfl (by omega) (Nat.le_of_ble_eq_true rfl) d_Value_isNothing_1 (by omega) (by omega) rfl ?_
  refine go_ifb_ne (tgt := 21) X d_Value_isNothing_4 rfl (fun hq1 => ?_) (fun hq1 => ?_)
  · skip
    refine go_iconst (v := 0) X d_Value_isNothing_21 ?_
    refine go_iret X d_Value_isNothing_22 rfl ?_ (by omega) (by omega) ?_
    · rfl
    · refine ⟨?_, rfl, rfl, rfl⟩
      have hb : (!decide (k = 0) && allT p_bl t) = false := by simp [hq1]
      rw [hb]; rfl
  · skip
    refine go_aload_n X d_Value_isNothing_7 rfl rfl ?_
    refine go_get (v := vr (v + 1)) X f_Value_14 h1 rfl d_Value_isNothing_8 (s_vref h2 (by omega)) ?_
    refine go_cVf (st2 := [vi (s_b (allT p_bl t))]) (r := []) X k_Value_42 (c_Text_isBlankAlone l D h3) h3.1.1 rfl rfl (by omega) (Nat.le_of_ble_eq_true rfl) d_Value_isNothing_11 (by omega) (by omega) rfl ?_
    refine go_ifb_eq (tgt := 21) X d_Value_isNothing_14 rfl (fun hq2 => ?_) (fun hq2 => ?_)
    · skip
      refine go_iconst (v := 0) X d_Value_isNothing_21 ?_
      refine go_iret X d_Value_isNothing_22 rfl ?_ (by omega) (by omega) ?_
      · rfl
      · refine ⟨?_, rfl, rfl, rfl⟩
        have hb : (!decide (k = 0) && allT p_bl t) = false := by simp [hq1, hq2]
        rw [hb]; rfl
    · skip
      refine go_iconst (v := 1) X d_Value_isNothing_17 ?_
      refine go_goto (tgt := 22) X d_Value_isNothing_18 rfl ?_
      refine go_iret X d_Value_isNothing_22 rfl ?_ (by omega) (by omega) ?_
      · rfl
      · refine ⟨?_, rfl, rfl, rfl⟩
        have hb : (!decide (k = 0) && allT p_bl t) = true := by simp [hq1, hq2]
        rw [hb]; rfl
theorem gof_r {t u : List Int} (ht : ∀ i, 0 ≤ tg t i ∧ tg t i < 65536) (hu : ∀ i, 0 ≤ tg u i ∧ tg u i < 65536) (h1 : t.length ≤ 100000) (h2 : u.length ≤ 100000) : -1000000 ≤ gof t u ∧ gof t u ≤ 1000000 := by
  unfold gof
  have key : ∀ (n : Nat) (i : Int) (s : Bool × Int), (-1000000 ≤ s.2 ∧ s.2 ≤ 1000000) → (-1000000 ≤ (it (gst t u) n i s).2 ∧ (it (gst t u) n i s).2 ≤ 1000000) := by
    intro n
    induction n with
    | zero => intro i s hs; exact hs
    | succ n ih =>
      intro i s hs
      refine ih (i + 1) (gst t u i s) ?_
      unfold gst
      split
      · split
        · exact hs
        · have := ht i
          have := hu i
          show -1000000 ≤ tg t i - tg u i ∧ tg t i - tg u i ≤ 1000000
          omega
      · exact hs
  exact key _ _ _ (by show -1000000 ≤ (t.length : Int) - u.length ∧ (t.length : Int) - u.length ≤ 1000000; omega)
set_option maxHeartbeats 4000000 in
set_option maxRecDepth 100000 in
theorem c_Value_sameAs (l : Launch) (D : va_G) {sh : s_S} {M : s_M} {sz v k n : Int} {t : List Int} (h : vv sh M v k n t) {b k' n' : Int} {u : List Int} (hb : vv sh M b k' n' u) : Sp l D y_Value_sameAs prog_12_method_7_code 2 (some .boolean) 3 0 0 [vr v, vr b] sh M sz (pF (some (vi (s_b (if k = 0 ∨ k' = 0 then decide (k = k' ∧ n = n') else decide (gof t u = 0))))) sh M sz) := by
  have h0 := h
  have p0 := hb
  have hln := h.2.2.1.len
  obtain ⟨h1, h2, h3, h4, h5, h6, h7, h8⟩ := h
  have hln' := hb.2.2.1.len
  obtain ⟨p1, p2, p3, p4, p5, p6, p7, p8⟩ := hb
  have hg := gof_r h3.rng p3.rng (by omega) (by omega)
  refine Sp.ofGo (own := "CiteForge$Value") (nm := "sameAs") (by decide) rfl rfl (Nat.le_of_ble_eq_true rfl) (lv := [(0, vr v), (1, vr b)]) rfl ?_
  intro g X
  refine go_aload_n X d_Value_sameAs_0 rfl rfl ?_
  refine go_cVf (st2 := [vi (s_b (decide (k = 0)))]) (r := []) X k_Value_34 (c_Value_isNumber l D h0) h1 rfl rfl (by omega) (Nat.le_of_ble_eq_true rfl) d_Value_sameAs_1 (by omega) (by omega) rfl ?_
  refine go_ifb_ne (tgt := 14) X d_Value_sameAs_4 rfl (fun hq1 => ?_) (fun hq1 => ?_)
  · skip
    refine go_aload_n X d_Value_sameAs_14 rfl rfl ?_
    refine go_get (v := vi k) X f_Value_20 h1 rfl d_Value_sameAs_15 (congrArg (s_v .int) h4) ?_
    refine go_aload_n X d_Value_sameAs_18 rfl rfl ?_
    refine go_get (v := vi k') X f_Value_20 p1 rfl d_Value_sameAs_19 (congrArg (s_v .int) p4) ?_
    refine go_icmp_ne (tgt := 40) X d_Value_sameAs_22 rfl (by omega) (by omega) (fun hq2 => ?_) (fun hq2 => ?_)
    · skip
      refine go_iconst (v := 0) X d_Value_sameAs_40 ?_
      refine go_iret X d_Value_sameAs_41 rfl ?_ (by omega) (by omega) ?_
      · rfl
      · refine ⟨?_, rfl, rfl, rfl⟩
        simp only [decide_eq_true_eq, decide_eq_false_iff_not] at *
        have hb : (if k = 0 ∨ k' = 0 then decide (k = k' ∧ n = n') else decide (gof t u = 0)) = false := by
          first | (rw [if_pos (by omega)]; simp only [decide_eq_true_eq, decide_eq_false_iff_not]; omega) | (rw [if_neg (by omega)]; simp only [decide_eq_true_eq, decide_eq_false_iff_not]; omega)
        rw [hb]; rfl
    · skip
      refine go_aload_n X d_Value_sameAs_25 rfl rfl ?_
      refine go_get (v := vi n) X f_Value_24 h1 rfl d_Value_sameAs_26 (congrArg (s_v .int) h5) ?_
      refine go_aload_n X d_Value_sameAs_29 rfl rfl ?_
      refine go_get (v := vi n') X f_Value_24 p1 rfl d_Value_sameAs_30 (congrArg (s_v .int) p5) ?_
      refine go_icmp_ne (tgt := 40) X d_Value_sameAs_33 rfl (by omega) (by omega) (fun hq3 => ?_) (fun hq3 => ?_)
      · skip
        refine go_iconst (v := 0) X d_Value_sameAs_40 ?_
        refine go_iret X d_Value_sameAs_41 rfl ?_ (by omega) (by omega) ?_
        · rfl
        · refine ⟨?_, rfl, rfl, rfl⟩
          simp only [decide_eq_true_eq, decide_eq_false_iff_not] at *
          have hb : (if k = 0 ∨ k' = 0 then decide (k = k' ∧ n = n') else decide (gof t u = 0)) = false := by
            first | (rw [if_pos (by omega)]; simp only [decide_eq_true_eq, decide_eq_false_iff_not]; omega) | (rw [if_neg (by omega)]; simp only [decide_eq_true_eq, decide_eq_false_iff_not]; omega)
          rw [hb]; rfl
      · skip
        refine go_iconst (v := 1) X d_Value_sameAs_36 ?_
        refine go_goto (tgt := 41) X d_Value_sameAs_37 rfl ?_
        refine go_iret X d_Value_sameAs_41 rfl ?_ (by omega) (by omega) ?_
        · rfl
        · refine ⟨?_, rfl, rfl, rfl⟩
          simp only [decide_eq_true_eq, decide_eq_false_iff_not] at *
          have hb : (if k = 0 ∨ k' = 0 then decide (k = k' ∧ n = n') else decide (gof t u = 0)) = true := by
            first | (rw [if_pos (by omega)]; simp only [decide_eq_true_eq, decide_eq_false_iff_not]; omega) | (rw [if_neg (by omega)]; simp only [decide_eq_true_eq, decide_eq_false_iff_not]; omega)
          rw [hb]; rfl
  · skip
    refine go_aload_n X d_Value_sameAs_7 rfl rfl ?_
    refine go_cVf (st2 := [vi (s_b (decide (k' = 0)))]) (r := []) X k_Value_34 (c_Value_isNumber l D p0) p1 rfl rfl (by omega) (Nat.le_of_ble_eq_true rfl) d_Value_sameAs_8 (by omega) (by omega) rfl ?_
    refine go_ifb_eq (tgt := 42) X d_Value_sameAs_11 rfl (fun hq4 => ?_) (fun hq4 => ?_)
    · skip
      refine go_aload_n X d_Value_sameAs_42 rfl rfl ?_
      refine go_get (v := vr (v + 1)) X f_Value_14 h1 rfl d_Value_sameAs_43 (s_vref h2 (by omega)) ?_
      refine go_aload_n X d_Value_sameAs_46 rfl rfl ?_
      refine go_get (v := vr (b + 1)) X f_Value_14 p1 rfl d_Value_sameAs_47 (s_vref p2 (by omega)) ?_
      refine go_cVf (st2 := [vi (gof t u)]) (r := []) X k_Value_38 (c_Text_against l D h3 p3) h3.1.1 rfl rfl (by omega) (Nat.le_of_ble_eq_true rfl) d_Value_sameAs_50 (by omega) (by omega) rfl ?_
      refine go_if_ne (tgt := 60) X d_Value_sameAs_53 rfl (by omega) (fun hq5 => ?_) (fun hq5 => ?_)
      · skip
        refine go_iconst (v := 0) X d_Value_sameAs_60 ?_
        refine go_iret X d_Value_sameAs_61 rfl ?_ (by omega) (by omega) ?_
        · rfl
        · refine ⟨?_, rfl, rfl, rfl⟩
          simp only [decide_eq_true_eq, decide_eq_false_iff_not] at *
          have hb : (if k = 0 ∨ k' = 0 then decide (k = k' ∧ n = n') else decide (gof t u = 0)) = false := by
            first | (rw [if_pos (by omega)]; simp only [decide_eq_true_eq, decide_eq_false_iff_not]; omega) | (rw [if_neg (by omega)]; simp only [decide_eq_true_eq, decide_eq_false_iff_not]; omega)
          rw [hb]; rfl
      · skip
        refine go_iconst (v := 1) X d_Value_sameAs_56 ?_
        refine go_goto (tgt := 61) X d_Value_sameAs_57 rfl ?_
        refine go_iret X d_Value_sameAs_61 rfl ?_ (by omega) (by omega) ?_
        · rfl
        · refine ⟨?_, rfl, rfl, rfl⟩
          simp only [decide_eq_true_eq, decide_eq_false_iff_not] at *
          have hb : (if k = 0 ∨ k' = 0 then decide (k = k' ∧ n = n') else decide (gof t u = 0)) = true := by
            first | (rw [if_pos (by omega)]; simp only [decide_eq_true_eq, decide_eq_false_iff_not]; omega) | (rw [if_neg (by omega)]; simp only [decide_eq_true_eq, decide_eq_false_iff_not]; omega)
          rw [hb]; rfl
    · skip
      refine go_aload_n X d_Value_sameAs_14 rfl rfl ?_
      refine go_get (v := vi k) X f_Value_20 h1 rfl d_Value_sameAs_15 (congrArg (s_v .int) h4) ?_
      refine go_aload_n X d_Value_sameAs_18 rfl rfl ?_
      refine go_get (v := vi k') X f_Value_20 p1 rfl d_Value_sameAs_19 (congrArg (s_v .int) p4) ?_
      refine go_icmp_ne (tgt := 40) X d_Value_sameAs_22 rfl (by omega) (by omega) (fun hq6 => ?_) (fun hq6 => ?_)
      · skip
        refine go_iconst (v := 0) X d_Value_sameAs_40 ?_
        refine go_iret X d_Value_sameAs_41 rfl ?_ (by omega) (by omega) ?_
        · rfl
        · refine ⟨?_, rfl, rfl, rfl⟩
          simp only [decide_eq_true_eq, decide_eq_false_iff_not] at *
          have hb : (if k = 0 ∨ k' = 0 then decide (k = k' ∧ n = n') else decide (gof t u = 0)) = false := by
            first | (rw [if_pos (by omega)]; simp only [decide_eq_true_eq, decide_eq_false_iff_not]; omega) | (rw [if_neg (by omega)]; simp only [decide_eq_true_eq, decide_eq_false_iff_not]; omega)
          rw [hb]; rfl
      · skip
        refine go_aload_n X d_Value_sameAs_25 rfl rfl ?_
        refine go_get (v := vi n) X f_Value_24 h1 rfl d_Value_sameAs_26 (congrArg (s_v .int) h5) ?_
        refine go_aload_n X d_Value_sameAs_29 rfl rfl ?_
        refine go_get (v := vi n') X f_Value_24 p1 rfl d_Value_sameAs_30 (congrArg (s_v .int) p5) ?_
        refine go_icmp_ne (tgt := 40) X d_Value_sameAs_33 rfl (by omega) (by omega) (fun hq7 => ?_) (fun hq7 => ?_)
        · skip
          refine go_iconst (v := 0) X d_Value_sameAs_40 ?_
          refine go_iret X d_Value_sameAs_41 rfl ?_ (by omega) (by omega) ?_
          · rfl
          · refine ⟨?_, rfl, rfl, rfl⟩
            simp only [decide_eq_true_eq, decide_eq_false_iff_not] at *
            have hb : (if k = 0 ∨ k' = 0 then decide (k = k' ∧ n = n') else decide (gof t u = 0)) = false := by
              first | (rw [if_pos (by omega)]; simp only [decide_eq_true_eq, decide_eq_false_iff_not]; omega) | (rw [if_neg (by omega)]; simp only [decide_eq_true_eq, decide_eq_false_iff_not]; omega)
            rw [hb]; rfl
        · skip
          refine go_iconst (v := 1) X d_Value_sameAs_36 ?_
          refine go_goto (tgt := 41) X d_Value_sameAs_37 rfl ?_
          refine go_iret X d_Value_sameAs_41 rfl ?_ (by omega) (by omega) ?_
          · rfl
          · refine ⟨?_, rfl, rfl, rfl⟩
            simp only [decide_eq_true_eq, decide_eq_false_iff_not] at *
            have hb : (if k = 0 ∨ k' = 0 then decide (k = k' ∧ n = n') else decide (gof t u = 0)) = true := by
              first | (rw [if_pos (by omega)]; simp only [decide_eq_true_eq, decide_eq_false_iff_not]; omega) | (rw [if_neg (by omega)]; simp only [decide_eq_true_eq, decide_eq_false_iff_not]; omega)
            rw [hb]; rfl
