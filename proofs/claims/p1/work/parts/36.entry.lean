/-! Entry: at a, its words a + 1, its texts' array a + 2, text j at a + 3 + 2 * j, its sort key a + 15. -/
theorem of_ne {p c d : Int} (h : c ≠ d) : p + c ≠ p + d := by omega
theorem of_ne0 {p c : Int} (h : c ≠ 0) : p + c ≠ p := by omega
theorem of_ne1 {p c : Int} (h : c ≠ 0) : p ≠ p + c := by omega
theorem of_gt {p c z : Int} (h : p + c ≤ z) (hc : 0 < c) : z ≠ p := by omega
abbrev rL (x : Int) : Prop := -9223372036854775808 ≤ x ∧ x < 9223372036854775808
def lset (X : Int → List Int) (j : Int) (u : List Int) : Int → List Int := fun i => if i = j then u else X i
/-- an array of texts at b, the texts behind it -/
def txs (sh : s_S) (M : s_M) (b K : Int) (X : Int → List Int) : Prop := ∀ i : Int, 0 ≤ i → i < K → M b i = b + 1 + 2 * i ∧ tv sh M (b + 1 + 2 * i) 60 (X i)
theorem txs.kept {sh : s_S} {M M' : s_M} {b K : Int} {X : Int → List Int} (h : txs sh M b K X) (hf : ∀ z, b ≤ z → z ≤ b + 2 * K → M' z = M z) : txs sh M' b K X := by
  intro i h0 h1
  obtain ⟨q1, q2⟩ := h i h0 h1
  exact ⟨by rw [hf b (by omega) (by omega)]; exact q1, q2.kept (hf _ (by omega) (by omega)) (hf _ (by omega) (by omega))⟩
theorem txs.set {sh : s_S} {M M' : s_M} {b K j : Int} {X : Int → List Int} {u : List Int} (h : txs sh M b K X) (hj : 0 ≤ j ∧ j < K) (hx : tv sh M' (b + 1 + 2 * j) 60 u) (hf : ∀ z, b ≤ z → z ≤ b + 2 * K → ¬ (b + 1 + 2 * j ≤ z ∧ z ≤ b + 1 + 2 * j + 1) → M' z = M z) : txs sh M' b K (lset X j u) := by
  intro i h0 h1
  obtain ⟨q1, q2⟩ := h i h0 h1
  refine ⟨by rw [hf b (by omega) (by omega) (by omega)]; exact q1, ?_⟩
  unfold lset
  by_cases hi : i = j
  · subst hi
    rw [if_pos rfl]
    exact hx
  · rw [if_neg hi]
    exact q2.kept (hf _ (by omega) (by omega) (by omega)) (hf _ (by omega) (by omega) (by omega))
/-- the first place of w from i on, of m places; or -1 -/
def fi (W : Int → Int) (w : Int) : Nat → Int → Int
  | 0, _ => -1
  | m + 1, i => if W i = w then i else fi W w m (i + 1)
theorem fi_nxt {W : Int → Int} {w n i : Int} (h : i < n) (hw : W i ≠ w) : fi W w (n - i).toNat i = fi W w (n - (i + 1)).toNat (i + 1) := by
  have e : (n - i).toNat = (n - (i + 1)).toNat + 1 := by omega
  rw [e]
  exact if_neg hw
theorem fi_hit {W : Int → Int} {w n i : Int} (h : i < n) (hw : W i = w) : fi W w (n - i).toNat i = i := by
  have e : (n - i).toNat = (n - (i + 1)).toNat + 1 := by omega
  rw [e]
  exact if_pos hw
theorem fi_end {W : Int → Int} {w n i : Int} (h : n ≤ i) : fi W w (n - i).toNat i = -1 := by
  rw [show (n - i).toNat = 0 by omega]
  rfl
theorem fi_rng {W : Int → Int} {w : Int} : ∀ (m : Nat) (i : Int), fi W w m i = -1 ∨ (i ≤ fi W w m i ∧ fi W w m i < i + m ∧ W (fi W w m i) = w)
  | 0, i => Or.inl rfl
  | m + 1, i => by
    show (if W i = w then i else fi W w m (i + 1)) = -1 ∨ _
    by_cases h : W i = w
    · refine Or.inr ?_
      have e : fi W w (m + 1) i = i := if_pos h
      rw [e]
      exact ⟨by omega, by omega, h⟩
    · have e : fi W w (m + 1) i = fi W w m (i + 1) := if_neg h
      rw [if_neg h, e]
      rcases fi_rng m (i + 1) with h1 | ⟨h1, h2, h3⟩
      · exact Or.inl h1
      · exact Or.inr ⟨by omega, by omega, h3⟩
/-- the place of the word w among n -/
def fx (W : Int → Int) (n w : Int) : Int := fi W w (n - 0).toNat 0
theorem fx_rng {W : Int → Int} {n w : Int} (h : 0 ≤ n) : fx W n w = -1 ∨ (0 ≤ fx W n w ∧ fx W n w < n ∧ W (fx W n w) = w) := by
  rcases fi_rng (W := W) (w := w) (n - 0).toNat 0 with h1 | ⟨h1, h2, h3⟩
  · exact Or.inl h1
  · exact Or.inr ⟨h1, by unfold fx; omega, h3⟩
def env (sh : s_S) (M : s_M) (a k t c n : Int) (W : Int → Int) (X : Int → List Int) (s : List Int) : Prop := sh a = some (.inl (1, ts_Entry)) ∧ sh (a + 1) = some (.inr (.long, 6)) ∧ sh (a + 2) = some (.inr (.object "CiteForge$Text", 6)) ∧ M a 0 = k ∧ M a 1 = t ∧ M a 2 = c ∧ M a 3 = n ∧ M a 4 = a + 1 ∧ M a 5 = a + 2 ∧ M a 6 = a + 15 ∧ (0 ≤ n ∧ n ≤ 6) ∧ 0 ≤ a ∧ M (a + 1) = W ∧ (∀ i, rL (W i)) ∧ (rL k ∧ rL t ∧ rL c) ∧ txs sh M (a + 2) 6 X ∧ tv sh M (a + 15) 60 s
theorem env.kept {sh : s_S} {M M' : s_M} {a k t c n : Int} {W : Int → Int} {X : Int → List Int} {s : List Int} (h : env sh M a k t c n W X s) (hf : ∀ z, a ≤ z → z ≤ a + 16 → M' z = M z) : env sh M' a k t c n W X s := by
  obtain ⟨q1, q2, q3, q4, q5, q6, q7, q8, q9, q10, q11, q12, q13, q14, q15, q16, q17⟩ := h
  have e := hf a (by omega) (by omega)
  exact ⟨q1, q2, q3, by rw [e]; exact q4, by rw [e]; exact q5, by rw [e]; exact q6, by rw [e]; exact q7, by rw [e]; exact q8, by rw [e]; exact q9, by rw [e]; exact q10, q11, q12, by rw [hf _ (by omega) (by omega)]; exact q13, q14, q15, q16.kept (fun z h1 h2 => hf z (by omega) (by omega)), q17.kept (hf _ (by omega) (by omega)) (hf _ (by omega) (by omega))⟩
/-- a reference or null, by the place found -/
abbrev fq (b j : Int) : Value := if 0 ≤ j then vr (b + 1 + 2 * j) else .null
theorem s_cmp0 {x y : Int} (h : s_cmp x y = 0) : x = y := by
  unfold s_cmp at h
  by_cases h1 : y < x
  · rw [if_pos h1] at h; omega
  · rw [if_neg h1] at h
    by_cases h2 : x = y
    · exact h2
    · rw [if_neg h2] at h; omega
theorem s_cmp_rng (x y : Int) : -1 ≤ s_cmp x y ∧ s_cmp x y ≤ 1 := by
  unfold s_cmp
  split
  · omega
  · split <;> omega
set_option maxHeartbeats 4000000 in
set_option maxRecDepth 100000 in
theorem c_Entry_ownField (l : Launch) (D : va_G) {sh : s_S} {M : s_M} {sz a k t c n : Int} {W : Int → Int} {Y : Int → List Int} {s : List Int} (h : env sh M a k t c n W Y s) {w : Int} (hw : rL w) : Sp l D y_Entry_ownField prog_4_method_4_code 4 (some (.object "CiteForge$Text")) 1 0 0 [vr a, vl w] sh M sz (pF (some (fq (a + 2) (fx W n w))) sh M sz) := by
  have hh := h
  obtain ⟨h1, h2, h3, h4, h5, h6, h7, h8, h9, h10, h11, h12, h13, h14, h15, h16, h17⟩ := h
  refine Sp.ofGo (own := "CiteForge$Entry") (nm := "ownField") (by decide) rfl rfl (Nat.le_of_ble_eq_true rfl) (lv := [(0, vr a), (1, vl w)]) rfl ?_
  intro g X
  refine go_iconst (v := 0) X d_Entry_ownField_0 ?_
  refine go_istore_n (lv' := [(3, vi 0), (0, vr a), (1, vl w)]) X d_Entry_ownField_1 rfl (by decide) rfl ?_
  have loop : ∀ (fuel : Nat) (i : Int), (0 ≤ i) → (i ≤ n) → (fi W w (n - i).toNat i = fx W n w) → (n - i).toNat < fuel → Go g 0 0 sh M sz 2 [(0, vr a), (1, vl w), (3, vi i)] [] := by
    intro fuel
    induction fuel with
    | zero => intro i hi hi2 hp hm_loop; exact absurd hm_loop (Nat.not_lt_zero _)
    | succ fuel ih_loop =>
      intro i hi hi2 hp hm_loop
      refine go_iload_n X d_Entry_ownField_2 rfl rfl ?_
      refine go_aload_n X d_Entry_ownField_3 rfl rfl ?_
      refine go_get (v := vi n) X f_Entry_38 h1 rfl d_Entry_ownField_4 (congrArg (s_v .int) h7) ?_
      refine go_icmp_ge (tgt := 34) X d_Entry_ownField_7 rfl (by omega) (by omega) (fun hq1 => ?_) (fun hq1 => ?_)
      · skip
        refine go_null X d_Entry_ownField_34 ?_
        refine go_aret X d_Entry_ownField_35 rfl (Or.inl ⟨_, rfl⟩) (Or.inl rfl) (by omega) (by omega) ?_
        rw [fi_end (by omega)] at hp
        exact ⟨by rw [← hp]; rfl, rfl, rfl, rfl⟩
      · skip
        refine go_aload_n X d_Entry_ownField_10 rfl rfl ?_
        refine go_get (v := vr (a + 1)) X f_Entry_11 h1 rfl d_Entry_ownField_11 (s_varr h8 (by omega)) ?_
        refine go_iload_n X d_Entry_ownField_14 rfl rfl ?_
        refine go_lald X h2 (by omega) (by omega) d_Entry_ownField_15 ?_
        refine go_top (v' := vl (W i)) X (by rw [h13]) ?_
        have hw0 := h14 i
        refine go_lload_n X d_Entry_ownField_16 rfl rfl ?_
        refine go_lcmp X (by omega) (by omega) d_Entry_ownField_17 ?_
        have hc0 := s_cmp_rng (W i) w
        refine go_if_ne (tgt := 28) X d_Entry_ownField_18 rfl (by omega) (fun hq2 => ?_) (fun hq2 => ?_)
        · skip
          have hn : fi W w (n - (i + 1)).toNat (i + 1) = fx W n w := (fi_nxt (by omega) (fun q => hq2 (by rw [q]; unfold s_cmp; rw [if_neg (by omega), if_pos rfl]))).symm.trans hp
          refine go_iinc (v := 1) (x := i) (lv' := [(3, vi (i + 1)), (0, vr a), (1, vl w)]) X d_Entry_ownField_28 rfl (by decide) rfl ?_
          refine go_goto (tgt := 2) X d_Entry_ownField_31 rfl ?_
          refine go_lv (lv' := [(0, vr a), (1, vl w), (3, vi (i + 1))]) X [1, 2, 0] rfl ?_
          exact ih_loop (i + 1) (by omega) (by omega) hn (by omega)
        · skip
          refine go_aload_n X d_Entry_ownField_21 rfl rfl ?_
          refine go_get (v := vr (a + 2)) X f_Entry_17 h1 rfl d_Entry_ownField_22 (s_varr h9 (by omega)) ?_
          refine go_iload_n X d_Entry_ownField_25 rfl rfl ?_
          obtain ⟨q3, hq4⟩ : ∃ q, q = a + 2 + 1 + 2 * (i) := ⟨_, rfl⟩
          obtain ⟨e5, tv6⟩ := h16 (i) (by omega) (by omega)
          rw [← hq4] at e5 tv6
          refine go_aald X h3 (by omega) (by omega) d_Entry_ownField_26 ?_
          refine go_top (v' := vr q3) X (s_qref e5 (by omega)) ?_
          refine go_aret X d_Entry_ownField_27 rfl (Or.inl ⟨_, rfl⟩) (Or.inr ⟨_, rfl⟩) (by omega) (by omega) ?_
          rw [fi_hit (by omega) (s_cmp0 hq2)] at hp
          exact ⟨by rw [← hp]; unfold fq; rw [if_pos (by omega)]; exact congrArg (fun z => some (vr z)) (by omega), rfl, rfl, rfl⟩
  refine go_lv (lv' := [(0, vr a), (1, vl w), (3, vi 0)]) X [1, 2, 0] rfl ?_
  exact loop _ 0 (by omega) (by omega) rfl (Nat.lt_succ_self _)
set_option maxHeartbeats 4000000 in
set_option maxRecDepth 100000 in
theorem c_Entry_begin (l : Launch) (D : va_G) {sh : s_S} {M : s_M} {sz a k t c n : Int} {W : Int → Int} {Y : Int → List Int} {s : List Int} (h : env sh M a k t c n W Y s) {k' t' : Int} (hk : rL k') (ht : rL t') : Sp l D y_Entry_begin prog_4_method_2_code 5 none 2 0 0 [vr a, vl k', vl t'] sh M sz (fun v' sh' M' sz' => v' = none ∧ sh' = sh ∧ sz' = sz ∧ env sh M' a k' t' 0 0 W Y [] ∧ fr (fun z => a ≤ z ∧ z ≤ a + 16) M M') := by
  have hh := h
  obtain ⟨h1, h2, h3, h4, h5, h6, h7, h8, h9, h10, h11, h12, h13, h14, h15, h16, h17⟩ := h
  refine Sp.ofGo (own := "CiteForge$Entry") (nm := "begin") (by decide) rfl rfl (Nat.le_of_ble_eq_true rfl) (lv := [(0, vr a), (1, vl k'), (3, vl t')]) rfl ?_
  intro g X
  refine go_aload_n X d_Entry_begin_0 rfl rfl ?_
  refine go_lload_n X d_Entry_begin_1 rfl rfl ?_
  refine go_put (x := k') (v := vl k') X f_Entry_28 h1 rfl d_Entry_begin_2 rfl rfl rfl ?_
  generalize hM2 : m_s M a 0 k' = M1
  have e3 : M1 a 1 = t := by rw [← hM2]; exact (m_s_n (fun q => absurd q.2 (by decide))).trans h5
  have e4 : M1 a 2 = c := by rw [← hM2]; exact (m_s_n (fun q => absurd q.2 (by decide))).trans h6
  have e5 : M1 a 3 = n := by rw [← hM2]; exact (m_s_n (fun q => absurd q.2 (by decide))).trans h7
  have e6 : M1 a 4 = a + 1 := by rw [← hM2]; exact (m_s_n (fun q => absurd q.2 (by decide))).trans h8
  have e7 : M1 a 5 = a + 2 := by rw [← hM2]; exact (m_s_n (fun q => absurd q.2 (by decide))).trans h9
  have e8 : M1 a 6 = a + 15 := by rw [← hM2]; exact (m_s_n (fun q => absurd q.2 (by decide))).trans h10
  have e9 : M1 a 0 = k' := by rw [← hM2, m_s_s]
  have tv10 := h17.kept (M' := M1) (by rw [← hM2]; exact m_s_a (by omega)) (by rw [← hM2]; exact m_s_a (by omega))
  have fr11 : fr (fun z => a ≤ z ∧ z ≤ a + 16) M M1 := fun z hz => by
    have hz1 : ¬ (a ≤ z ∧ z ≤ a + 16) := hz
    rw [← hM2]; exact (m_s_a (by omega))
  have rw12 : M1 (a + 1) = W := by rw [← hM2]; exact (m_s_a (of_ne0 (by decide))).trans h13
  have tx13 : txs sh M1 (a + 2) 6 Y := h16.kept (fun z hz1 hz2 => by rw [← hM2]; exact m_s_a (of_gt hz1 (by decide)))
  refine go_aload_n X d_Entry_begin_5 rfl rfl ?_
  refine go_lload_n X d_Entry_begin_6 rfl rfl ?_
  refine go_put (x := t') (v := vl t') X f_Entry_32 h1 rfl d_Entry_begin_7 rfl rfl rfl ?_
  generalize hM15 : m_s M1 a 1 t' = M14
  have e16 : M14 a 2 = c := by rw [← hM15]; exact (m_s_n (fun q => absurd q.2 (by decide))).trans e4
  have e17 : M14 a 3 = n := by rw [← hM15]; exact (m_s_n (fun q => absurd q.2 (by decide))).trans e5
  have e18 : M14 a 4 = a + 1 := by rw [← hM15]; exact (m_s_n (fun q => absurd q.2 (by decide))).trans e6
  have e19 : M14 a 5 = a + 2 := by rw [← hM15]; exact (m_s_n (fun q => absurd q.2 (by decide))).trans e7
  have e20 : M14 a 6 = a + 15 := by rw [← hM15]; exact (m_s_n (fun q => absurd q.2 (by decide))).trans e8
  have e21 : M14 a 0 = k' := by rw [← hM15]; exact (m_s_n (fun q => absurd q.2 (by decide))).trans e9
  have e22 : M14 a 1 = t' := by rw [← hM15, m_s_s]
  have tv23 := tv10.kept (M' := M14) (by rw [← hM15]; exact m_s_a (by omega)) (by rw [← hM15]; exact m_s_a (by omega))
  have fr24 : fr (fun z => a ≤ z ∧ z ≤ a + 16) M M14 := fun z hz => by
    have hz1 : ¬ (a ≤ z ∧ z ≤ a + 16) := hz
    rw [← hM15]; exact (m_s_a (by omega)).trans (fr11 z hz)
  have rw25 : M14 (a + 1) = W := by rw [← hM15]; exact (m_s_a (of_ne0 (by decide))).trans rw12
  have tx26 : txs sh M14 (a + 2) 6 Y := tx13.kept (fun z hz1 hz2 => by rw [← hM15]; exact m_s_a (of_gt hz1 (by decide)))
  clear e3 e4 e5 e6 e7 e8 e9 fr11 rw12 tv10 tx13
  refine go_aload_n X d_Entry_begin_10 rfl rfl ?_
  refine go_lconst (x := 0) X d_Entry_begin_11 (by decide) ?_
  refine go_put (x := 0) (v := vl 0) X f_Entry_35 h1 rfl d_Entry_begin_12 rfl rfl rfl ?_
  generalize hM28 : m_s M14 a 2 0 = M27
  have e29 : M27 a 3 = n := by rw [← hM28]; exact (m_s_n (fun q => absurd q.2 (by decide))).trans e17
  have e30 : M27 a 4 = a + 1 := by rw [← hM28]; exact (m_s_n (fun q => absurd q.2 (by decide))).trans e18
  have e31 : M27 a 5 = a + 2 := by rw [← hM28]; exact (m_s_n (fun q => absurd q.2 (by decide))).trans e19
  have e32 : M27 a 6 = a + 15 := by rw [← hM28]; exact (m_s_n (fun q => absurd q.2 (by decide))).trans e20
  have e33 : M27 a 0 = k' := by rw [← hM28]; exact (m_s_n (fun q => absurd q.2 (by decide))).trans e21
  have e34 : M27 a 1 = t' := by rw [← hM28]; exact (m_s_n (fun q => absurd q.2 (by decide))).trans e22
  have e35 : M27 a 2 = 0 := by rw [← hM28, m_s_s]
  have tv36 := tv23.kept (M' := M27) (by rw [← hM28]; exact m_s_a (by omega)) (by rw [← hM28]; exact m_s_a (by omega))
  have fr37 : fr (fun z => a ≤ z ∧ z ≤ a + 16) M M27 := fun z hz => by
    have hz1 : ¬ (a ≤ z ∧ z ≤ a + 16) := hz
    rw [← hM28]; exact (m_s_a (by omega)).trans (fr24 z hz)
  have rw38 : M27 (a + 1) = W := by rw [← hM28]; exact (m_s_a (of_ne0 (by decide))).trans rw25
  have tx39 : txs sh M27 (a + 2) 6 Y := tx26.kept (fun z hz1 hz2 => by rw [← hM28]; exact m_s_a (of_gt hz1 (by decide)))
  clear e16 e17 e18 e19 e20 e21 e22 fr24 rw25 tv23 tx26
  refine go_aload_n X d_Entry_begin_15 rfl rfl ?_
  refine go_iconst (v := 0) X d_Entry_begin_16 ?_
  refine go_put (x := 0) (v := vi 0) X f_Entry_38 h1 rfl d_Entry_begin_17 rfl rfl rfl ?_
  generalize hM41 : m_s M27 a 3 0 = M40
  have e42 : M40 a 4 = a + 1 := by rw [← hM41]; exact (m_s_n (fun q => absurd q.2 (by decide))).trans e30
  have e43 : M40 a 5 = a + 2 := by rw [← hM41]; exact (m_s_n (fun q => absurd q.2 (by decide))).trans e31
  have e44 : M40 a 6 = a + 15 := by rw [← hM41]; exact (m_s_n (fun q => absurd q.2 (by decide))).trans e32
  have e45 : M40 a 0 = k' := by rw [← hM41]; exact (m_s_n (fun q => absurd q.2 (by decide))).trans e33
  have e46 : M40 a 1 = t' := by rw [← hM41]; exact (m_s_n (fun q => absurd q.2 (by decide))).trans e34
  have e47 : M40 a 2 = 0 := by rw [← hM41]; exact (m_s_n (fun q => absurd q.2 (by decide))).trans e35
  have e48 : M40 a 3 = 0 := by rw [← hM41, m_s_s]
  have tv49 := tv36.kept (M' := M40) (by rw [← hM41]; exact m_s_a (by omega)) (by rw [← hM41]; exact m_s_a (by omega))
  have fr50 : fr (fun z => a ≤ z ∧ z ≤ a + 16) M M40 := fun z hz => by
    have hz1 : ¬ (a ≤ z ∧ z ≤ a + 16) := hz
    rw [← hM41]; exact (m_s_a (by omega)).trans (fr37 z hz)
  have rw51 : M40 (a + 1) = W := by rw [← hM41]; exact (m_s_a (of_ne0 (by decide))).trans rw38
  have tx52 : txs sh M40 (a + 2) 6 Y := tx39.kept (fun z hz1 hz2 => by rw [← hM41]; exact m_s_a (of_gt hz1 (by decide)))
  clear e29 e30 e31 e32 e33 e34 e35 fr37 rw38 tv36 tx39
  refine go_aload_n X d_Entry_begin_20 rfl rfl ?_
  refine go_get (v := vr (a + 15)) X f_Entry_24 h1 rfl d_Entry_begin_21 (s_vref e44 (by omega)) ?_
  refine go_cV (st2 := []) (r := []) X k_Entry_42 (k_Text_reset l D tv49) h17.1.1 rfl rfl (by omega) (Nat.le_of_ble_eq_true rfl) d_Entry_begin_24 (by omega) (by omega) (fun v sh' M53 sz' hp54 => ?_)
  obtain ⟨e55, e56, e57, tv58, fr59⟩ := hp54
  subst e55
  rw [e56, e57]
  show Go g 0 0 sh M53 sz 27 [(0, vr a), (1, vl k'), (3, vl t')] []
  have e60 : M53 a 4 = a + 1 := (congrFun (fr59 a (by omega)) _).trans e42
  have e61 : M53 a 5 = a + 2 := (congrFun (fr59 a (by omega)) _).trans e43
  have e62 : M53 a 6 = a + 15 := (congrFun (fr59 a (by omega)) _).trans e44
  have e63 : M53 a 0 = k' := (congrFun (fr59 a (by omega)) _).trans e45
  have e64 : M53 a 1 = t' := (congrFun (fr59 a (by omega)) _).trans e46
  have e65 : M53 a 2 = 0 := (congrFun (fr59 a (by omega)) _).trans e47
  have e66 : M53 a 3 = 0 := (congrFun (fr59 a (by omega)) _).trans e48
  have fr67 : fr (fun z => a ≤ z ∧ z ≤ a + 16) M M53 := fun z hz => by
    have hz1 : ¬ (a ≤ z ∧ z ≤ a + 16) := hz
    exact (fr59 z (by omega)).trans (fr50 z hz)
  have rw68 : M53 (a + 1) = W := (fr59 (a + 1) (by omega)).trans rw51
  have tx69 : txs sh M53 (a + 2) 6 Y := tx52.kept (fun z hz1 hz2 => fr59 z (by omega))
  clear e42 e43 e44 e45 e46 e47 e48 fr50 fr59 rw51 tv49 tx52
  refine go_vret X d_Entry_begin_27 rfl (by omega) (by omega) ?_
  exact ⟨rfl, rfl, rfl, ⟨h1, h2, h3, e63, e64, e65, e66, e60, e61, e62, (by omega), h12, rw68, h14, ⟨hk, ht, by omega⟩, tx69, tv58⟩, fr67⟩
