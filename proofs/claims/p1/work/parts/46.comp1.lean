set_option maxHeartbeats 4000000 in
set_option maxRecDepth 100000 in
theorem c_Citations_size (l : Launch) (D : va_G) {sh : s_S} {M : s_M} {sz p s w n m : Int} {W L : Int → Int} (h : civ sh M p s w n m W L) : Sp l D y_Citations_size prog_2_method_2_code 1 (some .int) 1 0 0 [vr p] sh M sz (pF (some (vi n)) sh M sz) := by
  have hh := h
  obtain ⟨h1, h2, h3, h4, h5, h6, h7, h8, h9, h10, h11, h12, h13, h14, h15, h16, h17, h18, h19⟩ := h
  refine Sp.ofGo (own := "CiteForge$Citations") (nm := "size") (by decide) rfl rfl (Nat.le_of_ble_eq_true rfl) (lv := [(0, vr p)]) rfl ?_
  intro g X
  refine go_aload_n X d_Citations_size_0 rfl rfl ?_
  refine go_get (v := vi n) X f_Citations_31 h1 rfl d_Citations_size_1 (congrArg (s_v .int) h9) ?_
  refine go_iret X d_Citations_size_4 rfl ?_ (by omega) (by omega) ?_
  · rfl
  · exact ⟨rfl, rfl, rfl, rfl⟩
set_option maxHeartbeats 4000000 in
set_option maxRecDepth 100000 in
theorem c_Citations_listSize (l : Launch) (D : va_G) {sh : s_S} {M : s_M} {sz p s w n m : Int} {W L : Int → Int} (h : civ sh M p s w n m W L) : Sp l D y_Citations_listSize prog_2_method_7_code 1 (some .int) 1 0 0 [vr p] sh M sz (pF (some (vi m)) sh M sz) := by
  have hh := h
  obtain ⟨h1, h2, h3, h4, h5, h6, h7, h8, h9, h10, h11, h12, h13, h14, h15, h16, h17, h18, h19⟩ := h
  refine Sp.ofGo (own := "CiteForge$Citations") (nm := "listSize") (by decide) rfl rfl (Nat.le_of_ble_eq_true rfl) (lv := [(0, vr p)]) rfl ?_
  intro g X
  refine go_aload_n X d_Citations_listSize_0 rfl rfl ?_
  refine go_get (v := vi m) X f_Citations_39 h1 rfl d_Citations_listSize_1 (congrArg (s_v .int) h10) ?_
  refine go_iret X d_Citations_listSize_4 rfl ?_ (by omega) (by omega) ?_
  · rfl
  · exact ⟨rfl, rfl, rfl, rfl⟩
set_option maxHeartbeats 4000000 in
set_option maxRecDepth 100000 in
theorem c_Citations_isFull (l : Launch) (D : va_G) {sh : s_S} {M : s_M} {sz p s w n m : Int} {W L : Int → Int} (h : civ sh M p s w n m W L) : Sp l D y_Citations_isFull prog_2_method_3_code 1 (some .boolean) 1 0 0 [vr p] sh M sz (pF (some (vi (s_b (decide (10 ≤ n))))) sh M sz) := by
  have hh := h
  obtain ⟨h1, h2, h3, h4, h5, h6, h7, h8, h9, h10, h11, h12, h13, h14, h15, h16, h17, h18, h19⟩ := h
  refine Sp.ofGo (own := "CiteForge$Citations") (nm := "isFull") (by decide) rfl rfl (Nat.le_of_ble_eq_true rfl) (lv := [(0, vr p)]) rfl ?_
  intro g X
  refine go_aload_n X d_Citations_isFull_0 rfl rfl ?_
  refine go_get (v := vi n) X f_Citations_31 h1 rfl d_Citations_isFull_1 (congrArg (s_v .int) h9) ?_
  refine go_bipush (v := 10) X d_Citations_isFull_4 (by decide) ?_
  refine go_icmp_lt (tgt := 13) X d_Citations_isFull_6 rfl (by omega) (by omega) (fun hq1 => ?_) (fun hq1 => ?_)
  · skip
    refine go_iconst (v := 0) X d_Citations_isFull_13 ?_
    refine go_iret X d_Citations_isFull_14 rfl ?_ (by omega) (by omega) ?_
    · rfl
    · refine ⟨?_, rfl, rfl, rfl⟩
      have hb : decide (10 ≤ n) = false := by simp only [decide_eq_true_eq, decide_eq_false_iff_not]; omega
      rw [hb]; rfl
  · skip
    refine go_iconst (v := 1) X d_Citations_isFull_9 ?_
    refine go_goto (tgt := 14) X d_Citations_isFull_10 rfl ?_
    refine go_iret X d_Citations_isFull_14 rfl ?_ (by omega) (by omega) ?_
    · rfl
    · refine ⟨?_, rfl, rfl, rfl⟩
      have hb : decide (10 ≤ n) = true := by simp only [decide_eq_true_eq, decide_eq_false_iff_not]; omega
      rw [hb]; rfl
set_option maxHeartbeats 4000000 in
set_option maxRecDepth 100000 in
theorem c_Citations_isListed (l : Launch) (D : va_G) {sh : s_S} {M : s_M} {sz p s w n m : Int} {W L : Int → Int} (h : civ sh M p s w n m W L) {i : Int} (hi : -2147483648 ≤ i ∧ i < 2147483648) : Sp l D y_Citations_isListed prog_2_method_8_code 2 (some .boolean) 1 0 0 [vr p, vi i] sh M sz (pF (some (vi (s_b (decide (0 ≤ i ∧ i < m))))) sh M sz) := by
  have hh := h
  obtain ⟨h1, h2, h3, h4, h5, h6, h7, h8, h9, h10, h11, h12, h13, h14, h15, h16, h17, h18, h19⟩ := h
  refine Sp.ofGo (own := "CiteForge$Citations") (nm := "isListed") (by decide) rfl rfl (Nat.le_of_ble_eq_true rfl) (lv := [(0, vr p), (1, vi i)]) rfl ?_
  intro g X
  refine go_iload_n X d_Citations_isListed_0 rfl rfl ?_
  refine go_if_lt (tgt := 16) X d_Citations_isListed_1 rfl (by omega) (fun hq1 => ?_) (fun hq1 => ?_)
  · skip
    refine go_iconst (v := 0) X d_Citations_isListed_16 ?_
    refine go_iret X d_Citations_isListed_17 rfl ?_ (by omega) (by omega) ?_
    · rfl
    · refine ⟨?_, rfl, rfl, rfl⟩
      have hb : decide (0 ≤ i ∧ i < m) = false := by simp only [decide_eq_true_eq, decide_eq_false_iff_not]; omega
      rw [hb]; rfl
  · skip
    refine go_iload_n X d_Citations_isListed_4 rfl rfl ?_
    refine go_aload_n X d_Citations_isListed_5 rfl rfl ?_
    refine go_get (v := vi m) X f_Citations_39 h1 rfl d_Citations_isListed_6 (congrArg (s_v .int) h10) ?_
    refine go_icmp_ge (tgt := 16) X d_Citations_isListed_9 rfl (by omega) (by omega) (fun hq2 => ?_) (fun hq2 => ?_)
    · skip
      refine go_iconst (v := 0) X d_Citations_isListed_16 ?_
      refine go_iret X d_Citations_isListed_17 rfl ?_ (by omega) (by omega) ?_
      · rfl
      · refine ⟨?_, rfl, rfl, rfl⟩
        have hb : decide (0 ≤ i ∧ i < m) = false := by simp only [decide_eq_true_eq, decide_eq_false_iff_not]; omega
        rw [hb]; rfl
    · skip
      refine go_iconst (v := 1) X d_Citations_isListed_12 ?_
      refine go_goto (tgt := 17) X d_Citations_isListed_13 rfl ?_
      refine go_iret X d_Citations_isListed_17 rfl ?_ (by omega) (by omega) ?_
      · rfl
      · refine ⟨?_, rfl, rfl, rfl⟩
        have hb : decide (0 ≤ i ∧ i < m) = true := by simp only [decide_eq_true_eq, decide_eq_false_iff_not]; omega
        rw [hb]; rfl
set_option maxHeartbeats 4000000 in
set_option maxRecDepth 100000 in
theorem c_Citations_listed (l : Launch) (D : va_G) {sh : s_S} {M : s_M} {sz p s w n m : Int} {W L : Int → Int} (h : civ sh M p s w n m W L) {i : Int} (hi : 0 ≤ i ∧ i < m) : Sp l D y_Citations_listed prog_2_method_9_code 2 (some (.object "CiteForge$Entry")) 1 0 0 [vr p, vi i] sh M sz (pF (some (vr (s + 2 + 17 * L i))) sh M sz) := by
  have hh := h
  obtain ⟨h1, h2, h3, h4, h5, h6, h7, h8, h9, h10, h11, h12, h13, h14, h15, h16, h17, h18, h19⟩ := h
  refine Sp.ofGo (own := "CiteForge$Citations") (nm := "listed") (by decide) rfl rfl (Nat.le_of_ble_eq_true rfl) (lv := [(0, vr p), (1, vi i)]) rfl ?_
  intro g X
  refine go_aload_n X d_Citations_listed_0 rfl rfl ?_
  refine go_get (v := vr (p + 2)) X f_Citations_27 h1 rfl d_Citations_listed_1 (s_varr h8 (by omega)) ?_
  refine go_iload_n X d_Citations_listed_4 rfl rfl ?_
  obtain ⟨hL1, hL2⟩ := h19 i (by omega) (by omega)
  refine go_aald X h3 (by omega) (by omega) d_Citations_listed_5 ?_
  refine go_top (v' := vr (s + 2 + 17 * L i)) X (s_qref hL2 (by omega)) ?_
  refine go_aret X d_Citations_listed_6 rfl (Or.inl ⟨_, rfl⟩) (Or.inr ⟨_, rfl⟩) (by omega) (by omega) ?_
  exact ⟨rfl, rfl, rfl, rfl⟩
set_option maxHeartbeats 4000000 in
set_option maxRecDepth 100000 in
theorem c_Citations_isCited (l : Launch) (D : va_G) {sh : s_S} {M : s_M} {sz p s w n m : Int} {W L : Int → Int} (h : civ sh M p s w n m W L) {v : Int} (hv : rL v) : Sp l D y_Citations_isCited prog_2_method_4_code 4 (some .boolean) 1 0 0 [vr p, vl v] sh M sz (pF (some (vi (s_b (decide (0 ≤ fx W n v))))) sh M sz) := by
  have hh := h
  obtain ⟨h1, h2, h3, h4, h5, h6, h7, h8, h9, h10, h11, h12, h13, h14, h15, h16, h17, h18, h19⟩ := h
  refine Sp.ofGo (own := "CiteForge$Citations") (nm := "isCited") (by decide) rfl rfl (Nat.le_of_ble_eq_true rfl) (lv := [(0, vr p), (1, vl v)]) rfl ?_
  intro g X
  refine go_iconst (v := 0) X d_Citations_isCited_0 ?_
  refine go_istore_n (lv' := [(3, vi 0), (0, vr p), (1, vl v)]) X d_Citations_isCited_1 rfl (by decide) rfl ?_
  have loop : ∀ (fuel : Nat) (i : Int), (0 ≤ i) → (i ≤ n) → (fi W v (n - i).toNat i = fx W n v) → (n - i).toNat < fuel → Go g 0 0 sh M sz 2 [(0, vr p), (1, vl v), (3, vi i)] [] := by
    intro fuel
    induction fuel with
    | zero => intro i hi hi2 hp hm_loop; exact absurd hm_loop (Nat.not_lt_zero _)
    | succ fuel ih_loop =>
      intro i hi hi2 hp hm_loop
      refine go_iload_n X d_Citations_isCited_2 rfl rfl ?_
      refine go_aload_n X d_Citations_isCited_3 rfl rfl ?_
      refine go_get (v := vi n) X f_Citations_31 h1 rfl d_Citations_isCited_4 (congrArg (s_v .int) h9) ?_
      refine go_icmp_ge (tgt := 29) X d_Citations_isCited_7 rfl (by omega) (by omega) (fun hq1 => ?_) (fun hq1 => ?_)
      · skip
        refine go_iconst (v := 0) X d_Citations_isCited_29 ?_
        refine go_iret X d_Citations_isCited_30 rfl ?_ (by omega) (by omega) ?_
        · rfl
        · rw [fi_end (by omega)] at hp
          rw [← hp]
          exact ⟨rfl, rfl, rfl, rfl⟩
      · skip
        refine go_aload_n X d_Citations_isCited_10 rfl rfl ?_
        refine go_get (v := vr (p + 1)) X f_Citations_19 h1 rfl d_Citations_isCited_11 (s_varr h7 (by omega)) ?_
        refine go_iload_n X d_Citations_isCited_14 rfl rfl ?_
        refine go_lald X h2 (by omega) (by omega) d_Citations_isCited_15 ?_
        refine go_top (v' := vl (W i)) X (by rw [h17]) ?_
        have hw0 := h18 i
        refine go_lload_n X d_Citations_isCited_16 rfl rfl ?_
        refine go_lcmp X (by omega) (by omega) d_Citations_isCited_17 ?_
        have hc0 := s_cmp_rng (W i) v
        refine go_if_ne (tgt := 23) X d_Citations_isCited_18 rfl (by omega) (fun hq2 => ?_) (fun hq2 => ?_)
        · skip
          have hn : fi W v (n - (i + 1)).toNat (i + 1) = fx W n v := (fi_nxt (by omega) (fun q => hq2 (by rw [q]; unfold s_cmp; rw [if_neg (by omega), if_pos rfl]))).symm.trans hp
          refine go_iinc (v := 1) (x := i) (lv' := [(3, vi (i + 1)), (0, vr p), (1, vl v)]) X d_Citations_isCited_23 rfl (by decide) rfl ?_
          refine go_goto (tgt := 2) X d_Citations_isCited_26 rfl ?_
          refine go_lv (lv' := [(0, vr p), (1, vl v), (3, vi (i + 1))]) X [1, 2, 0] rfl ?_
          exact ih_loop (i + 1) (by omega) (by omega) hn (by omega)
        · skip
          refine go_iconst (v := 1) X d_Citations_isCited_21 ?_
          refine go_iret X d_Citations_isCited_22 rfl ?_ (by omega) (by omega) ?_
          · rfl
          · rw [fi_hit (by omega) (s_cmp0 hq2)] at hp
            have hb : decide (0 ≤ fx W n v) = true := by rw [← hp]; simp only [decide_eq_true_eq]; omega
            rw [hb]
            exact ⟨rfl, rfl, rfl, rfl⟩
  refine go_lv (lv' := [(0, vr p), (1, vl v), (3, vi 0)]) X [1, 2, 0] rfl ?_
  exact loop _ 0 (by omega) (by omega) rfl (Nat.lt_succ_self _)
set_option maxHeartbeats 4000000 in
set_option maxRecDepth 100000 in
theorem c_Citations_add (l : Launch) (D : va_G) {sh : s_S} {M : s_M} {sz p s w n m : Int} {W L : Int → Int} (h : civ sh M p s w n m W L) {v : Int} (hv : rL v) (hn : n < 10) : Sp l D y_Citations_add prog_2_method_5_code 3 none 2 0 0 [vr p, vl v] sh M sz (fun v' sh' M' sz' => v' = none ∧ sh' = sh ∧ sz' = sz ∧ civ sh M' p s w (n + 1) m (rset W n v) L ∧ fr (fun z => p ≤ z ∧ z ≤ p + 2) M M') := by
  have hh := h
  obtain ⟨h1, h2, h3, h4, h5, h6, h7, h8, h9, h10, h11, h12, h13, h14, h15, h16, h17, h18, h19⟩ := h
  refine Sp.ofGo (own := "CiteForge$Citations") (nm := "add") (by decide) rfl rfl (Nat.le_of_ble_eq_true rfl) (lv := [(0, vr p), (1, vl v)]) rfl ?_
  intro g X
  refine go_aload_n X d_Citations_add_0 rfl rfl ?_
  refine go_cVf (st2 := [vi (s_b (decide (10 ≤ n)))]) (r := []) X k_Citations_35 (c_Citations_isFull l D hh) h1 rfl rfl (by omega) (Nat.le_of_ble_eq_true rfl) d_Citations_add_1 (by omega) (by omega) rfl ?_
  refine go_ifb_ne (tgt := 27) X d_Citations_add_4 rfl (fun hq1 => ?_) (fun hq1 => ?_)
  · skip
    refine go_vret X d_Citations_add_27 rfl (by omega) (by omega) ?_
    exfalso
    simp only [decide_eq_true_eq] at hq1
    omega
  · skip
    refine go_aload_n X d_Citations_add_7 rfl rfl ?_
    refine go_get (v := vr (p + 1)) X f_Citations_19 h1 rfl d_Citations_add_8 (s_varr h7 (by omega)) ?_
    refine go_aload_n X d_Citations_add_11 rfl rfl ?_
    refine go_get (v := vi n) X f_Citations_31 h1 rfl d_Citations_add_12 (congrArg (s_v .int) h9) ?_
    refine go_lload_n X d_Citations_add_15 rfl rfl ?_
    refine go_last X h2 (by omega) (by omega) d_Citations_add_16 ?_
    generalize hM3 : m_s M (p + 1) n v = M2
    have e4 : M2 p 0 = s := by rw [← hM3]; exact (m_s_n (fun q => absurd q.1 (of_ne1 (by decide)))).trans h5
    have e5 : M2 p 1 = w := by rw [← hM3]; exact (m_s_n (fun q => absurd q.1 (of_ne1 (by decide)))).trans h6
    have e6 : M2 p 2 = p + 1 := by rw [← hM3]; exact (m_s_n (fun q => absurd q.1 (of_ne1 (by decide)))).trans h7
    have e7 : M2 p 4 = p + 2 := by rw [← hM3]; exact (m_s_n (fun q => absurd q.1 (of_ne1 (by decide)))).trans h8
    have e8 : M2 p 3 = n := by rw [← hM3]; exact (m_s_n (fun q => absurd q.1 (of_ne1 (by decide)))).trans h9
    have e9 : M2 p 5 = m := by rw [← hM3]; exact (m_s_n (fun q => absurd q.1 (of_ne1 (by decide)))).trans h10
    have e10 : M2 (p + 1) n = v := by rw [← hM3, m_s_s]
    have fr11 : fr (fun z => p ≤ z ∧ z ≤ p + 2) M M2 := fun z hz => by
      have hz1 : ¬ (p ≤ z ∧ z ≤ p + 2) := hz
      rw [← hM3]; exact (m_s_a (by omega))
    have rw12 : M2 (p + 1) = rset W n v := by rw [← hM3]; exact row_set h17
    refine go_aload_n X d_Citations_add_17 rfl rfl ?_
    refine go_dup X d_Citations_add_18 rfl ?_
    refine go_get (v := vi n) X f_Citations_31 h1 rfl d_Citations_add_19 (congrArg (s_v .int) e8) ?_
    refine go_iconst (v := 1) X d_Citations_add_22 ?_
    refine go_iadd X d_Citations_add_23 ?_
    refine go_put (x := (n + 1)) (v := vi (n + 1)) X f_Citations_31 h1 rfl d_Citations_add_24 rfl rfl rfl ?_
    generalize hM14 : m_s M2 p 3 (n + 1) = M13
    have e15 : M13 p 0 = s := by rw [← hM14]; exact (m_s_n (fun q => absurd q.2 (by decide))).trans e4
    have e16 : M13 p 1 = w := by rw [← hM14]; exact (m_s_n (fun q => absurd q.2 (by decide))).trans e5
    have e17 : M13 p 2 = p + 1 := by rw [← hM14]; exact (m_s_n (fun q => absurd q.2 (by decide))).trans e6
    have e18 : M13 p 4 = p + 2 := by rw [← hM14]; exact (m_s_n (fun q => absurd q.2 (by decide))).trans e7
    have e19 : M13 p 5 = m := by rw [← hM14]; exact (m_s_n (fun q => absurd q.2 (by decide))).trans e9
    have e20 : M13 p 3 = n + 1 := by rw [← hM14, m_s_s]
    have fr21 : fr (fun z => p ≤ z ∧ z ≤ p + 2) M M13 := fun z hz => by
      have hz1 : ¬ (p ≤ z ∧ z ≤ p + 2) := hz
      rw [← hM14]; exact (m_s_a (by omega)).trans (fr11 z hz)
    have rw22 : M13 (p + 1) = rset W n v := by rw [← hM14]; exact (m_s_a (of_ne0 (by decide))).trans rw12
    clear e4 e5 e6 e7 e8 e9 fr11 rw12
    refine go_vret X d_Citations_add_27 rfl (by omega) (by omega) ?_
    have g3 : ∀ i, rL (rset W n v i) := fun i => by
      unfold rset
      split
      · omega
      · exact h18 i
    have g4 : M13 (p + 2) = M (p + 2) := by
      rw [← hM14, m_s_a (by omega), ← hM3, m_s_a (by omega)]
    exact ⟨rfl, rfl, rfl, ⟨h1, h2, h3, h4, e15, e16, e17, e18, e20, e19, (by omega), h12, h13, h14, h15, h16, rw22, g3, fun i q1 q2 => ⟨(h19 i q1 q2).1, by rw [g4]; exact (h19 i q1 q2).2⟩⟩, fr21⟩
set_option maxHeartbeats 4000000 in
set_option maxRecDepth 100000 in
theorem c_Citations_dropCitations (l : Launch) (D : va_G) {sh : s_S} {M : s_M} {sz p s w n m : Int} {W L : Int → Int} (h : civ sh M p s w n m W L) : Sp l D y_Citations_dropCitations prog_2_method_6_code 2 (some .int) 1 0 0 [vr p] sh M sz (fun v' sh' M' sz' => v' = some (vi n) ∧ sh' = sh ∧ sz' = sz ∧ civ sh M' p s w 0 m W L ∧ fr (fun z => p ≤ z ∧ z ≤ p + 2) M M') := by
  have hh := h
  obtain ⟨h1, h2, h3, h4, h5, h6, h7, h8, h9, h10, h11, h12, h13, h14, h15, h16, h17, h18, h19⟩ := h
  refine Sp.ofGo (own := "CiteForge$Citations") (nm := "dropCitations") (by decide) rfl rfl (Nat.le_of_ble_eq_true rfl) (lv := [(0, vr p)]) rfl ?_
  intro g X
  refine go_aload_n X d_Citations_dropCitations_0 rfl rfl ?_
  refine go_get (v := vi n) X f_Citations_31 h1 rfl d_Citations_dropCitations_1 (congrArg (s_v .int) h9) ?_
  refine go_istore_n (lv' := [(1, vi n), (0, vr p)]) X d_Citations_dropCitations_4 rfl (by decide) rfl ?_
  refine go_aload_n X d_Citations_dropCitations_5 rfl rfl ?_
  refine go_iconst (v := 0) X d_Citations_dropCitations_6 ?_
  refine go_put (x := 0) (v := vi 0) X f_Citations_31 h1 rfl d_Citations_dropCitations_7 rfl rfl rfl ?_
  generalize hM2 : m_s M p 3 0 = M1
  have e3 : M1 p 0 = s := by rw [← hM2]; exact (m_s_n (fun q => absurd q.2 (by decide))).trans h5
  have e4 : M1 p 1 = w := by rw [← hM2]; exact (m_s_n (fun q => absurd q.2 (by decide))).trans h6
  have e5 : M1 p 2 = p + 1 := by rw [← hM2]; exact (m_s_n (fun q => absurd q.2 (by decide))).trans h7
  have e6 : M1 p 4 = p + 2 := by rw [← hM2]; exact (m_s_n (fun q => absurd q.2 (by decide))).trans h8
  have e7 : M1 p 5 = m := by rw [← hM2]; exact (m_s_n (fun q => absurd q.2 (by decide))).trans h10
  have e8 : M1 p 3 = 0 := by rw [← hM2, m_s_s]
  have fr9 : fr (fun z => p ≤ z ∧ z ≤ p + 2) M M1 := fun z hz => by
    have hz1 : ¬ (p ≤ z ∧ z ≤ p + 2) := hz
    rw [← hM2]; exact (m_s_a (by omega))
  have rw10 : M1 (p + 1) = W := by rw [← hM2]; exact (m_s_a (of_ne0 (by decide))).trans h17
  refine go_iload_n X d_Citations_dropCitations_10 rfl rfl ?_
  refine go_iret X d_Citations_dropCitations_11 rfl ?_ (by omega) (by omega) ?_
  · rfl
  have g4 : M1 (p + 2) = M (p + 2) := by rw [← hM2]; exact m_s_a (by omega)
  exact ⟨rfl, rfl, rfl, ⟨h1, h2, h3, h4, e3, e4, e5, e6, e8, e7, (by omega), h12, h13, h14, h15, h16, rw10, h18, fun i q1 q2 => ⟨(h19 i q1 q2).1, by rw [g4]; exact (h19 i q1 q2).2⟩⟩, fr9⟩
set_option maxHeartbeats 4000000 in
set_option maxRecDepth 100000 in
theorem c_Citations_dropList (l : Launch) (D : va_G) {sh : s_S} {M : s_M} {sz p s w n m : Int} {W L : Int → Int} (h : civ sh M p s w n m W L) : Sp l D y_Citations_dropList prog_2_method_10_code 1 none 1 0 0 [vr p] sh M sz (fun v' sh' M' sz' => v' = none ∧ sh' = sh ∧ sz' = sz ∧ civ sh M' p s w n 0 W L ∧ fr (fun z => p ≤ z ∧ z ≤ p + 2) M M') := by
  have hh := h
  obtain ⟨h1, h2, h3, h4, h5, h6, h7, h8, h9, h10, h11, h12, h13, h14, h15, h16, h17, h18, h19⟩ := h
  refine Sp.ofGo (own := "CiteForge$Citations") (nm := "dropList") (by decide) rfl rfl (Nat.le_of_ble_eq_true rfl) (lv := [(0, vr p)]) rfl ?_
  intro g X
  refine go_aload_n X d_Citations_dropList_0 rfl rfl ?_
  refine go_iconst (v := 0) X d_Citations_dropList_1 ?_
  refine go_put (x := 0) (v := vi 0) X f_Citations_39 h1 rfl d_Citations_dropList_2 rfl rfl rfl ?_
  generalize hM2 : m_s M p 5 0 = M1
  have e3 : M1 p 0 = s := by rw [← hM2]; exact (m_s_n (fun q => absurd q.2 (by decide))).trans h5
  have e4 : M1 p 1 = w := by rw [← hM2]; exact (m_s_n (fun q => absurd q.2 (by decide))).trans h6
  have e5 : M1 p 2 = p + 1 := by rw [← hM2]; exact (m_s_n (fun q => absurd q.2 (by decide))).trans h7
  have e6 : M1 p 4 = p + 2 := by rw [← hM2]; exact (m_s_n (fun q => absurd q.2 (by decide))).trans h8
  have e7 : M1 p 3 = n := by rw [← hM2]; exact (m_s_n (fun q => absurd q.2 (by decide))).trans h9
  have e8 : M1 p 5 = 0 := by rw [← hM2, m_s_s]
  have fr9 : fr (fun z => p ≤ z ∧ z ≤ p + 2) M M1 := fun z hz => by
    have hz1 : ¬ (p ≤ z ∧ z ≤ p + 2) := hz
    rw [← hM2]; exact (m_s_a (by omega))
  have rw10 : M1 (p + 1) = W := by rw [← hM2]; exact (m_s_a (of_ne0 (by decide))).trans h17
  refine go_vret X d_Citations_dropList_5 rfl (by omega) (by omega) ?_
  exact ⟨rfl, rfl, rfl, ⟨h1, h2, h3, h4, e3, e4, e5, e6, e7, e8, h11, (by omega), h13, h14, h15, h16, rw10, h18, fun i q1 q2 => absurd q2 (by omega)⟩, fr9⟩
set_option maxHeartbeats 4000000 in
set_option maxRecDepth 100000 in
theorem c_Citations_sortList0 (l : Launch) (D : va_G) {sh : s_S} {M : s_M} {sz p s w n m : Int} {W L : Int → Int} (h : civ sh M p s w n m W L) (hm : m ≤ 1) : Sp l D y_Citations_sortList prog_2_method_14_code 5 (some .boolean) 1 0 0 [vr p] sh M sz (pF (some (vi 0)) sh M sz) := by
  have hh := h
  obtain ⟨h1, h2, h3, h4, h5, h6, h7, h8, h9, h10, h11, h12, h13, h14, h15, h16, h17, h18, h19⟩ := h
  refine Sp.ofGo (own := "CiteForge$Citations") (nm := "sortList") (by decide) rfl rfl (Nat.le_of_ble_eq_true rfl) (lv := [(0, vr p)]) rfl ?_
  intro g X
  refine go_iconst (v := 0) X d_Citations_sortList_0 ?_
  refine go_istore_n (lv' := [(1, vi 0), (0, vr p)]) X d_Citations_sortList_1 rfl (by decide) rfl ?_
  refine go_iconst (v := 1) X d_Citations_sortList_2 ?_
  refine go_istore_n (lv' := [(2, vi 1), (1, vi 0), (0, vr p)]) X d_Citations_sortList_3 rfl (by decide) rfl ?_
  refine go_iload_n X d_Citations_sortList_4 rfl rfl ?_
  refine go_aload_n X d_Citations_sortList_5 rfl rfl ?_
  refine go_get (v := vi m) X f_Citations_39 h1 rfl d_Citations_sortList_6 (congrArg (s_v .int) h10) ?_
  refine go_icmp_ge (tgt := 87) X d_Citations_sortList_9 rfl (by omega) (by omega) (fun hq1 => ?_) (fun hq1 => ?_)
  · skip
    refine go_iload_n X d_Citations_sortList_87 rfl rfl ?_
    refine go_iret X d_Citations_sortList_88 rfl ?_ (by omega) (by omega) ?_
    · rfl
    · exact ⟨rfl, rfl, rfl, rfl⟩
  · skip
    exfalso
    omega
set_option maxHeartbeats 4000000 in
set_option maxRecDepth 100000 in
theorem c_Shelf_size (l : Launch) (D : va_G) {sh : s_S} {M : s_M} {sz p w n : Int} {E : Int → sen} (h : shv sh M p w n E) : Sp l D y_Shelf_size prog_9_method_2_code 1 (some .int) 1 0 0 [vr p] sh M sz (pF (some (vi n)) sh M sz) := by
  have hh := h
  obtain ⟨h1, h2, h3, h4, h5, h6, h7, h8, h9, h10, h11⟩ := h
  refine Sp.ofGo (own := "CiteForge$Shelf") (nm := "size") (by decide) rfl rfl (Nat.le_of_ble_eq_true rfl) (lv := [(0, vr p)]) rfl ?_
  intro g X
  refine go_aload_n X d_Shelf_size_0 rfl rfl ?_
  refine go_get (v := vi n) X f_Shelf_22 h1 rfl d_Shelf_size_1 (congrArg (s_v .int) h6) ?_
  refine go_iret X d_Shelf_size_4 rfl ?_ (by omega) (by omega) ?_
  · rfl
  · exact ⟨rfl, rfl, rfl, rfl⟩
set_option maxHeartbeats 4000000 in
set_option maxRecDepth 100000 in
theorem c_Shelf_dropAll (l : Launch) (D : va_G) {sh : s_S} {M : s_M} {sz p w n : Int} {E : Int → sen} (h : shv sh M p w n E) : Sp l D y_Shelf_dropAll prog_9_method_3_code 1 none 1 0 0 [vr p] sh M sz (fun v' sh' M' sz' => v' = none ∧ sh' = sh ∧ sz' = sz ∧ shv sh M' p w 0 E ∧ fr (fun z => z = p) M M') := by
  have hh := h
  obtain ⟨h1, h2, h3, h4, h5, h6, h7, h8, h9, h10, h11⟩ := h
  refine Sp.ofGo (own := "CiteForge$Shelf") (nm := "dropAll") (by decide) rfl rfl (Nat.le_of_ble_eq_true rfl) (lv := [(0, vr p)]) rfl ?_
  intro g X
  refine go_aload_n X d_Shelf_dropAll_0 rfl rfl ?_
  refine go_iconst (v := 0) X d_Shelf_dropAll_1 ?_
  refine go_put (x := 0) (v := vi 0) X f_Shelf_22 h1 rfl d_Shelf_dropAll_2 rfl rfl rfl ?_
  generalize hM2 : m_s M p 2 0 = M1
  have e3 : M1 p 0 = p + 1 := by rw [← hM2]; exact (m_s_n (fun q => absurd q.2 (by decide))).trans h4
  have e4 : M1 p 1 = w := by rw [← hM2]; exact (m_s_n (fun q => absurd q.2 (by decide))).trans h5
  have e5 : M1 p 2 = 0 := by rw [← hM2, m_s_s]
  have fr6 : fr (fun z => z = p) M M1 := fun z hz => by
    have hz1 : ¬ (z = p) := hz
    rw [← hM2]; exact (m_s_a (by omega))
  refine go_vret X d_Shelf_dropAll_5 rfl (by omega) (by omega) ?_
  have g5 := h11.mv (by decide) lE_loc (sh' := sh) (M' := M1) (fun z q1 q2 => ⟨rfl, fr6 z (by omega)⟩)
  exact ⟨rfl, rfl, rfl, ⟨h1, h2, h3, e3, e4, e5, by decide, h8, h9, h10, g5⟩, fr6⟩
set_option maxHeartbeats 4000000 in
set_option maxRecDepth 100000 in
theorem c_Citations_makeList0 (l : Launch) (D : va_G) {sh : s_S} {M : s_M} {sz p s w n m : Int} {W L : Int → Int} (h : civ sh M p s w n m W L) {i ns : Int} {E : Int → sen} (hi : -2147483648 ≤ i ∧ i < 2147483648) (hn : n = 0) (hsh0 : shv sh M s w ns E) (hns : ns = 0) (hsp : s + 155 ≤ p) : Sp l D y_Citations_makeList prog_2_method_11_code 5 none 2 0 0 [vr p, vi i] sh M sz (fun v' sh' M' sz' => v' = none ∧ sh' = sh ∧ sz' = sz ∧ civ sh M' p s w n 0 W L ∧ fr (fun z => p ≤ z ∧ z ≤ p + 2) M M') := by
  have hh := h
  obtain ⟨h1, h2, h3, h4, h5, h6, h7, h8, h9, h10, h11, h12, h13, h14, h15, h16, h17, h18, h19⟩ := h
  have hsh := hsh0
  refine Sp.ofGo (own := "CiteForge$Citations") (nm := "makeList") (by decide) rfl rfl (Nat.le_of_ble_eq_true rfl) (lv := [(0, vr p), (1, vi i)]) rfl ?_
  intro g X
  refine go_aload_n X d_Citations_makeList_0 rfl rfl ?_
  refine go_iconst (v := 0) X d_Citations_makeList_1 ?_
  refine go_put (x := 0) (v := vi 0) X f_Citations_39 h1 rfl d_Citations_makeList_2 rfl rfl rfl ?_
  generalize hM2 : m_s M p 5 0 = M1
  have e3 : M1 p 0 = s := by rw [← hM2]; exact (m_s_n (fun q => absurd q.2 (by decide))).trans h5
  have e4 : M1 p 1 = w := by rw [← hM2]; exact (m_s_n (fun q => absurd q.2 (by decide))).trans h6
  have e5 : M1 p 2 = p + 1 := by rw [← hM2]; exact (m_s_n (fun q => absurd q.2 (by decide))).trans h7
  have e6 : M1 p 4 = p + 2 := by rw [← hM2]; exact (m_s_n (fun q => absurd q.2 (by decide))).trans h8
  have e7 : M1 p 3 = n := by rw [← hM2]; exact (m_s_n (fun q => absurd q.2 (by decide))).trans h9
  have e8 : M1 p 5 = 0 := by rw [← hM2, m_s_s]
  have fr9 : fr (fun z => p ≤ z ∧ z ≤ p + 2) M M1 := fun z hz => by
    have hz1 : ¬ (p ≤ z ∧ z ≤ p + 2) := hz
    rw [← hM2]; exact (m_s_a (by omega))
  have rw10 : M1 (p + 1) = W := by rw [← hM2]; exact (m_s_a (of_ne0 (by decide))).trans h17
  have hsh := hsh0.mv (sh' := sh) (M' := M1) (fun z q1 q2 => ⟨rfl, fr9 z (by omega)⟩) rfl
  refine go_iconst (v := 0) X d_Citations_makeList_5 ?_
  refine go_istore_n (lv' := [(2, vi 0), (0, vr p), (1, vi i)]) X d_Citations_makeList_6 rfl (by decide) rfl ?_
  refine go_iload_n X d_Citations_makeList_7 rfl rfl ?_
  refine go_aload_n X d_Citations_makeList_8 rfl rfl ?_
  refine go_get (v := vi n) X f_Citations_31 h1 rfl d_Citations_makeList_9 (congrArg (s_v .int) e7) ?_
  refine go_icmp_ge (tgt := 58) X d_Citations_makeList_12 rfl (by omega) (by omega) (fun hq11 => ?_) (fun hq11 => ?_)
  · skip
    refine go_aload_n X d_Citations_makeList_58 rfl rfl ?_
    refine go_get (v := vi 0) X f_Citations_39 h1 rfl d_Citations_makeList_59 (congrArg (s_v .int) e8) ?_
    refine go_istore_n (lv' := [(2, vi 0), (0, vr p), (1, vi i)]) X d_Citations_makeList_62 rfl (by decide) rfl ?_
    refine go_iconst (v := 0) X d_Citations_makeList_63 ?_
    refine go_istore_n (lv' := [(3, vi 0), (2, vi 0), (0, vr p), (1, vi i)]) X d_Citations_makeList_64 rfl (by decide) rfl ?_
    refine go_iload_n X d_Citations_makeList_65 rfl rfl ?_
    refine go_aload_n X d_Citations_makeList_66 rfl rfl ?_
    refine go_get (v := vr s) X f_Citations_9 h1 rfl d_Citations_makeList_67 (s_vref e3 (by omega)) ?_
    refine go_cVf (st2 := [vi ns, vi 0]) (r := [vi 0]) X k_Citations_50 (c_Shelf_size l D hsh) hsh.1 rfl rfl (by omega) (Nat.le_of_ble_eq_true rfl) d_Citations_makeList_70 (by omega) (by omega) rfl ?_
    refine go_icmp_ge (tgt := 124) X d_Citations_makeList_73 rfl (by omega) (by omega) (fun hq12 => ?_) (fun hq12 => ?_)
    · skip
      refine go_vret X d_Citations_makeList_124 rfl (by omega) (by omega) ?_
      exact ⟨rfl, rfl, rfl, ⟨h1, h2, h3, h4, e3, e4, e5, e6, e7, e8, h11, (by omega), h13, h14, h15, h16, rw10, h18, fun i q1 q2 => absurd q2 (by omega)⟩, fr9⟩
    · skip
      exfalso
      omega
  · skip
    exfalso
    omega
/-- eight characters of a long, n of them: all may be written -/
def okc (c : Int) : Bool := p_prn c || decide (c = 10)
def alc (x : Int) : Nat → Int → Bool
  | 0, _ => true
  | m + 1, i => okc (by_ x i) && alc x m (i + 1)
theorem alc_nxt {x n i : Int} (h : i < n) (hw : okc (by_ x i) = true) : alc x (n - i).toNat i = alc x (n - (i + 1)).toNat (i + 1) := by
  have e : (n - i).toNat = (n - (i + 1)).toNat + 1 := by omega
  rw [e]
  show (okc (by_ x i) && _) = _
  rw [hw, Bool.true_and]
theorem alc_no {x n i : Int} (h : i < n) (hw : okc (by_ x i) = false) : alc x (n - i).toNat i = false := by
  have e : (n - i).toNat = (n - (i + 1)).toNat + 1 := by omega
  rw [e]
  show (okc (by_ x i) && _) = _
  rw [hw, Bool.false_and]
theorem alc_end {x n i : Int} (h : n ≤ i) : alc x (n - i).toNat i = true := by
  rw [show (n - i).toNat = 0 by omega]
  rfl
def ala (x n : Int) : Bool := alc x (n - 0).toNat 0
/-- the characters put behind a text -/
def adst (x : Int) (i : Int) (t : List Int) : List Int := ta 320 t (by_ x i)
def ads (x n : Int) (t : List Int) : List Int := it (adst x) (n - 0).toNat 0 t
set_option maxHeartbeats 4000000 in
set_option maxRecDepth 100000 in
theorem c_Reader_allCharacters (l : Launch) (D : va_G) {sh : s_S} {M : s_M} {sz x n : Int} (hx : 0 ≤ x ∧ x < 18446744073709551616) (hn0 : 0 ≤ n ∧ n ≤ 8) : Sp l D y_Reader_allCharacters prog_8_method_2_code 5 (some .boolean) 3 0 0 [vl x, vi n] sh M sz (pF (some (vi (s_b (ala x n)))) sh M sz) := by
  refine Sp.ofGo (own := "CiteForge$Reader") (nm := "allCharacters") (by decide) rfl rfl (Nat.le_of_ble_eq_true rfl) (lv := [(0, vl x), (2, vi n)]) rfl ?_
  intro g X
  refine go_iconst (v := 0) X d_Reader_allCharacters_0 ?_
  refine go_istore_n (lv' := [(3, vi 0), (0, vl x), (2, vi n)]) X d_Reader_allCharacters_1 rfl (by decide) rfl ?_
  have loop : ∀ (fuel : Nat) (i : Int), (0 ≤ i) → (i ≤ n) → (alc x (n - i).toNat i = ala x n) → (n - i).toNat < fuel → Go g 0 0 sh M sz 2 [(0, vl x), (2, vi n), (3, vi i)] [] := by
    intro fuel
    induction fuel with
    | zero => intro i hi hi2 hp hm_loop; exact absurd hm_loop (Nat.not_lt_zero _)
    | succ fuel ih_loop =>
      intro i hi hi2 hp hm_loop
      refine go_iload_n X d_Reader_allCharacters_2 rfl rfl ?_
      refine go_iload_n X d_Reader_allCharacters_3 rfl rfl ?_
      refine go_icmp_ge (tgt := 37) X d_Reader_allCharacters_4 rfl (by omega) (by omega) (fun hq1 => ?_) (fun hq1 => ?_)
      · skip
        refine go_iconst (v := 1) X d_Reader_allCharacters_37 ?_
        refine go_iret X d_Reader_allCharacters_38 rfl ?_ (by omega) (by omega) ?_
        · rfl
        · rw [alc_end (by omega)] at hp
          rw [← hp]
          exact ⟨rfl, rfl, rfl, rfl⟩
      · skip
        refine go_lload_n X d_Reader_allCharacters_7 rfl rfl ?_
        refine go_iload_n X d_Reader_allCharacters_8 rfl rfl ?_
        refine go_cSf (st2 := [vi (by_ x i)]) (r := []) X k_Reader_42 (c_byteOf l D (by omega) (by omega)) rfl rfl (by omega) (Nat.le_of_ble_eq_true rfl) d_Reader_allCharacters_9 (by omega) (by omega) rfl ?_
        have hb0 := by_r x i
        refine go_istore (lv' := [(4, vi (by_ x i)), (0, vl x), (2, vi n), (3, vi i)]) X d_Reader_allCharacters_12 (by decide) rfl ?_
        refine go_iload X d_Reader_allCharacters_14 rfl ?_
        refine go_cSf (st2 := [vi (s_b (p_prn (by_ x i)))]) (r := []) X k_Reader_46 (c_isPrintable l D (by omega)) rfl rfl (by omega) (Nat.le_of_ble_eq_true rfl) d_Reader_allCharacters_16 (by omega) (by omega) rfl ?_
        refine go_ifb_ne (tgt := 31) X d_Reader_allCharacters_19 rfl (fun hq2 => ?_) (fun hq2 => ?_)
        · skip
          have ho : okc (by_ x i) = true := by unfold okc; rw [hq2]; rfl
          have hn := (alc_nxt (by omega) ho).symm.trans hp
          refine go_iinc (v := 1) (x := i) (lv' := [(3, vi (i + 1)), (4, vi (by_ x i)), (0, vl x), (2, vi n)]) X d_Reader_allCharacters_31 rfl (by decide) rfl ?_
          refine go_goto (tgt := 2) X d_Reader_allCharacters_34 rfl ?_
          refine go_lv (lv' := [(0, vl x), (2, vi n), (3, vi (i + 1))]) X [2, 3, 0] rfl ?_
          exact ih_loop (i + 1) (by omega) (by omega) hn (by omega)
        · skip
          refine go_iload X d_Reader_allCharacters_22 rfl ?_
          refine go_bipush (v := 10) X d_Reader_allCharacters_24 (by decide) ?_
          refine go_icmp_eq (tgt := 31) X d_Reader_allCharacters_26 rfl (by omega) (by omega) (fun hq3 => ?_) (fun hq3 => ?_)
          · skip
            have ho : okc (by_ x i) = true := by unfold okc; rw [decide_eq_true hq3, Bool.or_true]
            have hn := (alc_nxt (by omega) ho).symm.trans hp
            refine go_iinc (v := 1) (x := i) (lv' := [(3, vi (i + 1)), (4, vi (by_ x i)), (0, vl x), (2, vi n)]) X d_Reader_allCharacters_31 rfl (by decide) rfl ?_
            refine go_goto (tgt := 2) X d_Reader_allCharacters_34 rfl ?_
            refine go_lv (lv' := [(0, vl x), (2, vi n), (3, vi (i + 1))]) X [2, 3, 0] rfl ?_
            exact ih_loop (i + 1) (by omega) (by omega) hn (by omega)
          · skip
            refine go_iconst (v := 0) X d_Reader_allCharacters_29 ?_
            refine go_iret X d_Reader_allCharacters_30 rfl ?_ (by omega) (by omega) ?_
            · rfl
            · have ho : okc (by_ x i) = false := by unfold okc; rw [hq2, decide_eq_false hq3]; rfl
              rw [alc_no (by omega) ho] at hp
              rw [← hp]
              exact ⟨rfl, rfl, rfl, rfl⟩
  refine go_lv (lv' := [(0, vl x), (2, vi n), (3, vi 0)]) X [1, 2, 0] rfl ?_
  exact loop _ 0 (by omega) (by omega) rfl (Nat.lt_succ_self _)
set_option maxHeartbeats 4000000 in
set_option maxRecDepth 100000 in
theorem c_Reader_hasRoom (l : Launch) (D : va_G) {sh : s_S} {M : s_M} {sz p s w n : Int} {t : List Int} {W : Int → Int} {Y : Int → List Int} {v : List Int} (h : rdv sh M p s w n t W Y v) {q : Int} (hq : 0 ≤ q ∧ q ≤ 8) : Sp l D y_Reader_hasRoom prog_8_method_3_code 2 (some .boolean) 2 0 0 [vr p, vi q] sh M sz (pF (some (vi (s_b (decide ((t.length : Int) + q ≤ 320))))) sh M sz) := by
  have hh := h
  obtain ⟨h1, h2, h3, h4, h5, h6, h7, h8, h9, h10, h11, h12, h13, h14, h15, h16, h17, h18, h19, h20, h21⟩ := h
  have hln := h17.len
  refine Sp.ofGo (own := "CiteForge$Reader") (nm := "hasRoom") (by decide) rfl rfl (Nat.le_of_ble_eq_true rfl) (lv := [(0, vr p), (1, vi q)]) rfl ?_
  intro g X
  refine go_aload_n X d_Reader_hasRoom_0 rfl rfl ?_
  refine go_get (v := vr (p + 1)) X f_Reader_24 h1 rfl d_Reader_hasRoom_1 (s_vref h7 (by omega)) ?_
  refine go_cVf (st2 := [vi (t.length : Int)]) (r := []) X k_Reader_50 (k_Text_size l D h17) h17.1.1 rfl rfl (by omega) (Nat.le_of_ble_eq_true rfl) d_Reader_hasRoom_4 (by omega) (by omega) rfl ?_
  refine go_iload_n X d_Reader_hasRoom_7 rfl rfl ?_
  refine go_iadd X d_Reader_hasRoom_8 ?_
  refine go_sipush (v := 320) X d_Reader_hasRoom_9 (by decide) ?_
  refine go_icmp_gt (tgt := 19) X d_Reader_hasRoom_12 rfl (by omega) (by omega) (fun hq1 => ?_) (fun hq1 => ?_)
  · skip
    refine go_iconst (v := 0) X d_Reader_hasRoom_19 ?_
    refine go_iret X d_Reader_hasRoom_20 rfl ?_ (by omega) (by omega) ?_
    · rfl
    · refine ⟨?_, rfl, rfl, rfl⟩
      have hb : decide ((t.length : Int) + q ≤ 320) = false := by simp only [decide_eq_true_eq, decide_eq_false_iff_not]; omega
      rw [hb]; rfl
  · skip
    refine go_iconst (v := 1) X d_Reader_hasRoom_15 ?_
    refine go_goto (tgt := 20) X d_Reader_hasRoom_16 rfl ?_
    refine go_iret X d_Reader_hasRoom_20 rfl ?_ (by omega) (by omega) ?_
    · rfl
    · refine ⟨?_, rfl, rfl, rfl⟩
      have hb : decide ((t.length : Int) + q ≤ 320) = true := by simp only [decide_eq_true_eq, decide_eq_false_iff_not]; omega
      rw [hb]; rfl
set_option maxHeartbeats 4000000 in
set_option maxRecDepth 100000 in
theorem c_Reader_dropSource (l : Launch) (D : va_G) {sh : s_S} {M : s_M} {sz p s w n : Int} {t : List Int} {W : Int → Int} {Y : Int → List Int} {v : List Int} (h : rdv sh M p s w n t W Y v) : Sp l D y_Reader_dropSource prog_8_method_5_code 2 (some .int) 2 0 0 [vr p] sh M sz (fun v' sh' M' sz' => v' = some (vi t.length) ∧ sh' = sh ∧ sz' = sz ∧ rdv sh M' p s w n [] W Y v ∧ fr (fun z => p ≤ z ∧ z ≤ p + 22) M M') := by
  have hh := h
  obtain ⟨h1, h2, h3, h4, h5, h6, h7, h8, h9, h10, h11, h12, h13, h14, h15, h16, h17, h18, h19, h20, h21⟩ := h
  have hln := h17.len
  refine Sp.ofGo (own := "CiteForge$Reader") (nm := "dropSource") (by decide) rfl rfl (Nat.le_of_ble_eq_true rfl) (lv := [(0, vr p)]) rfl ?_
  intro g X
  refine go_aload_n X d_Reader_dropSource_0 rfl rfl ?_
  refine go_get (v := vr (p + 1)) X f_Reader_24 h1 rfl d_Reader_dropSource_1 (s_vref h7 (by omega)) ?_
  refine go_cVf (st2 := [vi (t.length : Int)]) (r := []) X k_Reader_50 (k_Text_size l D h17) h17.1.1 rfl rfl (by omega) (Nat.le_of_ble_eq_true rfl) d_Reader_dropSource_4 (by omega) (by omega) rfl ?_
  refine go_istore_n (lv' := [(1, vi (t.length : Int)), (0, vr p)]) X d_Reader_dropSource_7 rfl (by decide) rfl ?_
  refine go_aload_n X d_Reader_dropSource_8 rfl rfl ?_
  refine go_get (v := vr (p + 1)) X f_Reader_24 h1 rfl d_Reader_dropSource_9 (s_vref h7 (by omega)) ?_
  refine go_cV (st2 := []) (r := []) X k_Reader_58 (k_Text_reset l D h17) h17.1.1 rfl rfl (by omega) (Nat.le_of_ble_eq_true rfl) d_Reader_dropSource_12 (by omega) (by omega) (fun v sh' M1 sz' hp2 => ?_)
  obtain ⟨e3, e4, e5, tv6, fr7⟩ := hp2
  subst e3
  rw [e4, e5]
  show Go g 0 0 sh M1 sz 15 [(1, vi (t.length : Int)), (0, vr p)] []
  have e8 : M1 p 0 = s := (congrFun (fr7 p (by omega)) _).trans h5
  have e9 : M1 p 1 = w := (congrFun (fr7 p (by omega)) _).trans h6
  have e10 : M1 p 2 = p + 1 := (congrFun (fr7 p (by omega)) _).trans h7
  have e11 : M1 p 3 = p + 3 := (congrFun (fr7 p (by omega)) _).trans h8
  have e12 : M1 p 4 = p + 4 := (congrFun (fr7 p (by omega)) _).trans h9
  have e13 : M1 p 11 = p + 21 := (congrFun (fr7 p (by omega)) _).trans h10
  have e14 : M1 p 5 = n := (congrFun (fr7 p (by omega)) _).trans h11
  have tv15 := h21.kept (fr7 (p + 21) (by omega)) (fr7 (p + 21 + 1) (by omega))
  have fr16 : fr (fun z => p ≤ z ∧ z ≤ p + 22) M M1 := fun z hz => by
    have hz1 : ¬ (p ≤ z ∧ z ≤ p + 22) := hz
    exact (fr7 z (by omega))
  have rw17 : M1 (p + 3) = W := (fr7 (p + 3) (by omega)).trans h18
  have tx18 : txs sh M1 (p + 4) 8 Y := h20.kept (fun z hz1 hz2 => fr7 z (by omega))
  clear fr7
  refine go_iload_n X d_Reader_dropSource_15 rfl rfl ?_
  refine go_iret X d_Reader_dropSource_16 rfl ?_ (by omega) (by omega) ?_
  · rfl
  · exact ⟨rfl, rfl, rfl, ⟨h1, h2, h3, h4, e8, e9, e10, e11, e12, e13, e14, h12, h13, h14, h15, h16, tv6, rw17, h19, tx18, tv15⟩, fr16⟩
set_option maxHeartbeats 4000000 in
set_option maxRecDepth 100000 in
theorem c_Reader_findItem0 (l : Launch) (D : va_G) {sh : s_S} {M : s_M} {sz p s w n : Int} {t : List Int} {W : Int → Int} {Y : Int → List Int} {v : List Int} (h : rdv sh M p s w n t W Y v) (hw0 : M p 7 = 0) (hp0 : M p 6 = 0) (ht : t = []) : Sp l D y_Reader_findItem prog_8_method_7_code 2 (some .boolean) 2 0 0 [vr p] sh M sz (pF (some (vi 0)) sh M sz) := by
  have hh := h
  obtain ⟨h1, h2, h3, h4, h5, h6, h7, h8, h9, h10, h11, h12, h13, h14, h15, h16, h17, h18, h19, h20, h21⟩ := h
  have hln := h17.len
  have hl0 : (t.length : Int) = 0 := by rw [ht]; rfl
  refine Sp.ofGo (own := "CiteForge$Reader") (nm := "findItem") (by decide) rfl rfl (Nat.le_of_ble_eq_true rfl) (lv := [(0, vr p)]) rfl ?_
  intro g X
  refine go_aload_n X d_Reader_findItem_0 rfl rfl ?_
  refine go_get (v := vi 0) X f_Reader_73 h1 rfl d_Reader_findItem_1 (congrArg (s_v .int) hw0) ?_
  refine go_bipush (v := 8) X d_Reader_findItem_4 (by decide) ?_
  refine go_icmp_lt (tgt := 11) X d_Reader_findItem_6 rfl (by omega) (by omega) (fun hq1 => ?_) (fun hq1 => ?_)
  · skip
    refine go_aload_n X d_Reader_findItem_11 rfl rfl ?_
    refine go_get (v := vi 0) X f_Reader_70 h1 rfl d_Reader_findItem_12 (congrArg (s_v .int) hp0) ?_
    refine go_aload_n X d_Reader_findItem_15 rfl rfl ?_
    refine go_get (v := vr (p + 1)) X f_Reader_24 h1 rfl d_Reader_findItem_16 (s_vref h7 (by omega)) ?_
    refine go_cVf (st2 := [vi (t.length : Int), vi 0]) (r := [vi 0]) X k_Reader_50 (k_Text_size l D h17) h17.1.1 rfl rfl (by omega) (Nat.le_of_ble_eq_true rfl) d_Reader_findItem_19 (by omega) (by omega) rfl ?_
    refine go_icmp_ge (tgt := 66) X d_Reader_findItem_22 rfl (by omega) (by omega) (fun hq2 => ?_) (fun hq2 => ?_)
    · skip
      refine go_iconst (v := 0) X d_Reader_findItem_66 ?_
      refine go_iret X d_Reader_findItem_67 rfl ?_ (by omega) (by omega) ?_
      · rfl
      · exact ⟨rfl, rfl, rfl, rfl⟩
    · skip
      exfalso
      omega
  · skip
    exfalso
    omega
