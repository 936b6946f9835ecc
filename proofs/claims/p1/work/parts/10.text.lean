/-! The class Text: a text at a, its chars at a + 1. -/
def tx (sh : s_S) (M : s_M) (a : Int) (N : Nat) : Prop := sh a = some (.inl (0, ts_Text)) ∧ sh (a + 1) = some (.inr (.char, N)) ∧ M a 0 = a + 1 ∧ 0 ≤ M a 1 ∧ M a 1 ≤ N ∧ (∀ i, 0 ≤ M (a + 1) i ∧ M (a + 1) i < 65536) ∧ 0 ≤ a ∧ N ≤ 100000
def t_at (M : s_M) (a i : Int) : Int := if 0 ≤ i ∧ i < M a 1 then M (a + 1) i else 0
def t_add (M : s_M) (a : Int) (N : Nat) (c : Int) : s_M := if M a 1 < N then m_s (m_s M (a + 1) (M a 1) c) a 1 (M a 1 + 1) else M
set_option maxHeartbeats 4000000 in
set_option maxRecDepth 100000 in
theorem c_Text_size (l : Launch) (D : va_G) {sh : s_S} {M : s_M} {sz a : Int} {N : Nat} (h : tx sh M a N) : Sp l D y_Text_size prog_11_method_2_code 1 (some .int) 1 0 0 [vr a] sh M sz (pF (some (vi (M a 1))) sh M sz) := by
  obtain ⟨h1, h2, h3, h4, h5, h6, h7, h8⟩ := h
  refine Sp.ofGo (own := "CiteForge$Text") (nm := "size") (by decide) rfl rfl (Nat.le_of_ble_eq_true rfl) (lv := [(0, vr a)]) rfl ?_
  intro g X
  refine go_aload_n X d_Text_size_0 rfl rfl ?_
  refine go_get (v := vi (M a 1)) X f_Text_15 h1 rfl d_Text_size_1 (congrArg (s_v .int) rfl) ?_
  refine go_iret X d_Text_size_4 rfl ?_ (by omega) (by omega) ?_
  · rfl
  · exact ⟨rfl, rfl, rfl, rfl⟩
set_option maxHeartbeats 4000000 in
set_option maxRecDepth 100000 in
theorem c_Text_has (l : Launch) (D : va_G) {sh : s_S} {M : s_M} {sz a : Int} {N : Nat} (h : tx sh M a N) {i : Int} (hi : -2147483648 ≤ i ∧ i < 2147483648) : Sp l D y_Text_has prog_11_method_3_code 2 (some .boolean) 1 0 0 [vr a, vi i] sh M sz (pF (some (vi (s_b (decide (0 ≤ i ∧ i < M a 1))))) sh M sz) := by
  obtain ⟨h1, h2, h3, h4, h5, h6, h7, h8⟩ := h
  refine Sp.ofGo (own := "CiteForge$Text") (nm := "has") (by decide) rfl rfl (Nat.le_of_ble_eq_true rfl) (lv := [(0, vr a), (1, vi i)]) rfl ?_
  intro g X
  refine go_iload_n X d_Text_has_0 rfl rfl ?_
  refine go_if_lt (tgt := 16) X d_Text_has_1 rfl (by omega) (fun hq1 => ?_) (fun hq1 => ?_)
  · skip
    refine go_iconst (v := 0) X d_Text_has_16 ?_
    refine go_iret X d_Text_has_17 rfl ?_ (by omega) (by omega) ?_
    · rfl
    · refine ⟨?_, rfl, rfl, rfl⟩
      have hb : (decide (0 ≤ i ∧ i < M a 1)) = false := by simp only [Bool.or_eq_true, Bool.and_eq_true, Bool.or_eq_false_iff, Bool.and_eq_false_iff, decide_eq_true_eq, decide_eq_false_iff_not]; omega
      rw [hb]; rfl
  · skip
    refine go_iload_n X d_Text_has_4 rfl rfl ?_
    refine go_aload_n X d_Text_has_5 rfl rfl ?_
    refine go_get (v := vi (M a 1)) X f_Text_15 h1 rfl d_Text_has_6 (congrArg (s_v .int) rfl) ?_
    refine go_icmp_ge (tgt := 16) X d_Text_has_9 rfl (by omega) (by omega) (fun hq2 => ?_) (fun hq2 => ?_)
    · skip
      refine go_iconst (v := 0) X d_Text_has_16 ?_
      refine go_iret X d_Text_has_17 rfl ?_ (by omega) (by omega) ?_
      · rfl
      · refine ⟨?_, rfl, rfl, rfl⟩
        have hb : (decide (0 ≤ i ∧ i < M a 1)) = false := by simp only [Bool.or_eq_true, Bool.and_eq_true, Bool.or_eq_false_iff, Bool.and_eq_false_iff, decide_eq_true_eq, decide_eq_false_iff_not]; omega
        rw [hb]; rfl
    · skip
      refine go_iconst (v := 1) X d_Text_has_12 ?_
      refine go_goto (tgt := 17) X d_Text_has_13 rfl ?_
      refine go_iret X d_Text_has_17 rfl ?_ (by omega) (by omega) ?_
      · rfl
      · refine ⟨?_, rfl, rfl, rfl⟩
        have hb : (decide (0 ≤ i ∧ i < M a 1)) = true := by simp only [Bool.or_eq_true, Bool.and_eq_true, Bool.or_eq_false_iff, Bool.and_eq_false_iff, decide_eq_true_eq, decide_eq_false_iff_not]; omega
        rw [hb]; rfl
set_option maxHeartbeats 4000000 in
set_option maxRecDepth 100000 in
theorem c_Text_at (l : Launch) (D : va_G) {sh : s_S} {M : s_M} {sz a : Int} {N : Nat} (h : tx sh M a N) {i : Int} (hi : -2147483648 ≤ i ∧ i < 2147483648) : Sp l D y_Text_at prog_11_method_4_code 2 (some .char) 1 0 0 [vr a, vi i] sh M sz (pF (some (vi (t_at M a i))) sh M sz) := by
  obtain ⟨h1, h2, h3, h4, h5, h6, h7, h8⟩ := h
  refine Sp.ofGo (own := "CiteForge$Text") (nm := "at") (by decide) rfl rfl (Nat.le_of_ble_eq_true rfl) (lv := [(0, vr a), (1, vi i)]) rfl ?_
  intro g X
  refine go_iload_n X d_Text_at_0 rfl rfl ?_
  refine go_if_lt (tgt := 21) X d_Text_at_1 rfl (by omega) (fun hq1 => ?_) (fun hq1 => ?_)
  · skip
    refine go_iconst (v := 0) X d_Text_at_21 ?_
    refine go_iret X d_Text_at_22 rfl ?_ (by omega) (by omega) ?_
    · rfl
    · refine ⟨?_, rfl, rfl, rfl⟩
      unfold t_at
      rw [if_neg (by omega)]
  · skip
    refine go_iload_n X d_Text_at_4 rfl rfl ?_
    refine go_aload_n X d_Text_at_5 rfl rfl ?_
    refine go_get (v := vi (M a 1)) X f_Text_15 h1 rfl d_Text_at_6 (congrArg (s_v .int) rfl) ?_
    refine go_icmp_ge (tgt := 21) X d_Text_at_9 rfl (by omega) (by omega) (fun hq2 => ?_) (fun hq2 => ?_)
    · skip
      refine go_iconst (v := 0) X d_Text_at_21 ?_
      refine go_iret X d_Text_at_22 rfl ?_ (by omega) (by omega) ?_
      · rfl
      · refine ⟨?_, rfl, rfl, rfl⟩
        unfold t_at
        rw [if_neg (by omega)]
    · skip
      refine go_aload_n X d_Text_at_12 rfl rfl ?_
      refine go_get (v := vr (a + 1)) X f_Text_9 h1 rfl d_Text_at_13 (s_varr h3 (by omega)) ?_
      refine go_iload_n X d_Text_at_16 rfl rfl ?_
      refine go_cald X h2 (by omega) (by omega) d_Text_at_17 ?_
      refine go_goto (tgt := 22) X d_Text_at_18 rfl ?_
      refine go_iret X d_Text_at_22 rfl ?_ (by omega) (by omega) ?_
      · exact n_nc (by have := h6 i; omega)
      · refine ⟨?_, rfl, rfl, rfl⟩
        unfold t_at
        rw [if_pos (by omega)]
set_option maxHeartbeats 4000000 in
set_option maxRecDepth 100000 in
theorem c_Text_isFull (l : Launch) (D : va_G) {sh : s_S} {M : s_M} {sz a : Int} {N : Nat} (h : tx sh M a N) : Sp l D y_Text_isFull prog_11_method_5_code 1 (some .boolean) 1 0 0 [vr a] sh M sz (pF (some (vi (s_b (decide ((N : Int) ≤ M a 1))))) sh M sz) := by
  obtain ⟨h1, h2, h3, h4, h5, h6, h7, h8⟩ := h
  refine Sp.ofGo (own := "CiteForge$Text") (nm := "isFull") (by decide) rfl rfl (Nat.le_of_ble_eq_true rfl) (lv := [(0, vr a)]) rfl ?_
  intro g X
  refine go_aload_n X d_Text_isFull_0 rfl rfl ?_
  refine go_get (v := vi (M a 1)) X f_Text_15 h1 rfl d_Text_isFull_1 (congrArg (s_v .int) rfl) ?_
  refine go_aload_n X d_Text_isFull_4 rfl rfl ?_
  refine go_get (v := vr (a + 1)) X f_Text_9 h1 rfl d_Text_isFull_5 (s_varr h3 (by omega)) ?_
  refine go_alen X h2 (by simp) d_Text_isFull_8 ?_
  refine go_icmp_lt (tgt := 16) X d_Text_isFull_9 rfl (by omega) (by omega) (fun hq1 => ?_) (fun hq1 => ?_)
  · skip
    refine go_iconst (v := 0) X d_Text_isFull_16 ?_
    refine go_iret X d_Text_isFull_17 rfl ?_ (by omega) (by omega) ?_
    · rfl
    · refine ⟨?_, rfl, rfl, rfl⟩
      have hb : (decide ((N : Int) ≤ M a 1)) = false := by simp only [Bool.or_eq_true, Bool.and_eq_true, Bool.or_eq_false_iff, Bool.and_eq_false_iff, decide_eq_true_eq, decide_eq_false_iff_not]; omega
      rw [hb]; rfl
  · skip
    refine go_iconst (v := 1) X d_Text_isFull_12 ?_
    refine go_goto (tgt := 17) X d_Text_isFull_13 rfl ?_
    refine go_iret X d_Text_isFull_17 rfl ?_ (by omega) (by omega) ?_
    · rfl
    · refine ⟨?_, rfl, rfl, rfl⟩
      have hb : (decide ((N : Int) ≤ M a 1)) = true := by simp only [Bool.or_eq_true, Bool.and_eq_true, Bool.or_eq_false_iff, Bool.and_eq_false_iff, decide_eq_true_eq, decide_eq_false_iff_not]; omega
      rw [hb]; rfl
set_option maxHeartbeats 4000000 in
set_option maxRecDepth 100000 in
theorem c_Text_reset (l : Launch) (D : va_G) {sh : s_S} {M : s_M} {sz a : Int} {N : Nat} (h : tx sh M a N) : Sp l D y_Text_reset prog_11_method_6_code 1 none 1 0 0 [vr a] sh M sz (pF none sh (m_s M a 1 0) sz) := by
  obtain ⟨h1, h2, h3, h4, h5, h6, h7, h8⟩ := h
  refine Sp.ofGo (own := "CiteForge$Text") (nm := "reset") (by decide) rfl rfl (Nat.le_of_ble_eq_true rfl) (lv := [(0, vr a)]) rfl ?_
  intro g X
  refine go_aload_n X d_Text_reset_0 rfl rfl ?_
  refine go_iconst (v := 0) X d_Text_reset_1 ?_
  refine go_put (x := 0) (v := vi 0) X f_Text_15 h1 rfl d_Text_reset_2 rfl rfl rfl ?_
  generalize hM2 : m_s M a 1 0 = M1
  have e3 : M1 a 0 = a + 1 := by rw [← hM2]; exact (m_s_n (by omega)).trans h3
  have e4 : M1 a 1 = 0 := by rw [← hM2, m_s_s]
  refine go_vret X d_Text_reset_5 rfl (by omega) (by omega) ?_
  exact ⟨rfl, rfl, hM2.symm, rfl⟩
set_option maxHeartbeats 4000000 in
set_option maxRecDepth 100000 in
theorem c_Text_add (l : Launch) (D : va_G) {sh : s_S} {M : s_M} {sz a : Int} {N : Nat} (h : tx sh M a N) {c : Int} (hc : 0 ≤ c ∧ c < 65536) : Sp l D y_Text_add prog_11_method_7_code 2 none 1 0 0 [vr a, vi c] sh M sz (pF none sh (t_add M a N c) sz) := by
  obtain ⟨h1, h2, h3, h4, h5, h6, h7, h8⟩ := h
  refine Sp.ofGo (own := "CiteForge$Text") (nm := "add") (by decide) rfl rfl (Nat.le_of_ble_eq_true rfl) (lv := [(0, vr a), (1, vi c)]) rfl ?_
  intro g X
  refine go_aload_n X d_Text_add_0 rfl rfl ?_
  refine go_get (v := vi (M a 1)) X f_Text_15 h1 rfl d_Text_add_1 (congrArg (s_v .int) rfl) ?_
  refine go_aload_n X d_Text_add_4 rfl rfl ?_
  refine go_get (v := vr (a + 1)) X f_Text_9 h1 rfl d_Text_add_5 (s_varr h3 (by omega)) ?_
  refine go_alen X h2 (by simp) d_Text_add_8 ?_
  refine go_icmp_ge (tgt := 32) X d_Text_add_9 rfl (by omega) (by omega) (fun hq1 => ?_) (fun hq1 => ?_)
  · skip
    refine go_vret X d_Text_add_32 rfl (by omega) (by omega) ?_
    refine ⟨rfl, rfl, ?_, rfl⟩
    unfold t_add
    rw [if_neg (by omega)]
  · skip
    refine go_aload_n X d_Text_add_12 rfl rfl ?_
    refine go_get (v := vr (a + 1)) X f_Text_9 h1 rfl d_Text_add_13 (s_varr h3 (by omega)) ?_
    refine go_aload_n X d_Text_add_16 rfl rfl ?_
    refine go_get (v := vi (M a 1)) X f_Text_15 h1 rfl d_Text_add_17 (congrArg (s_v .int) rfl) ?_
    refine go_iload_n X d_Text_add_20 rfl rfl ?_
    refine go_cast X h2 (by omega) (by omega) (n_nc (by omega)) d_Text_add_21 ?_
    generalize hM3 : m_s M (a + 1) (M a 1) c = M2
    have e4 : M2 a 0 = a + 1 := by rw [← hM3]; exact (m_s_n (by omega)).trans h3
    have e5 : M2 a 1 = M a 1 := by rw [← hM3]; exact (m_s_n (by omega)).trans rfl
    have e6 : M2 (a + 1) (M a 1) = c := by rw [← hM3, m_s_s]
    refine go_aload_n X d_Text_add_22 rfl rfl ?_
    refine go_dup X d_Text_add_23 rfl ?_
    refine go_get (v := vi (M a 1)) X f_Text_15 h1 rfl d_Text_add_24 (congrArg (s_v .int) e5) ?_
    refine go_iconst (v := 1) X d_Text_add_27 ?_
    refine go_iadd X d_Text_add_28 ?_
    refine go_put (x := ((M a 1) + 1)) (v := vi ((M a 1) + 1)) X f_Text_15 h1 rfl d_Text_add_29 rfl rfl rfl ?_
    generalize hM8 : m_s M2 a 1 ((M a 1) + 1) = M7
    have e9 : M7 a 0 = a + 1 := by rw [← hM8]; exact (m_s_n (by omega)).trans e4
    have e10 : M7 (a + 1) (M a 1) = c := by rw [← hM8]; exact (m_s_n (by omega)).trans e6
    have e11 : M7 a 1 = (M a 1) + 1 := by rw [← hM8, m_s_s]
    refine go_vret X d_Text_add_32 rfl (by omega) (by omega) ?_
    refine ⟨rfl, rfl, ?_, rfl⟩
    unfold t_add
    rw [if_pos (by omega), ← hM8, ← hM3]
