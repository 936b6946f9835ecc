/-- a field is not added: the entry is full, or has it -/
abbrev aq (W : Int → Int) (n w : Int) : Prop := 6 ≤ n ∨ 0 ≤ fx W n w
abbrev xref : Int := 7378429404699914851
set_option maxHeartbeats 4000000 in
set_option maxRecDepth 100000 in
theorem c_Entry_addField (l : Launch) (D : va_G) {sh : s_S} {M : s_M} {sz a k t c n : Int} {W : Int → Int} {Y : Int → List Int} {s : List Int} (h : env sh M a k t c n W Y s) {w b : Int} {K : Nat} {u : List Int} (hw : rL w) (hb : tv sh M b K u) (hd : a + 16 < b) : Sp l D y_Entry_addField prog_4_method_3_code 4 none 5 0 0 [vr a, vl w, vr b] sh M sz (fun v' sh' M' sz' => v' = none ∧ sh' = sh ∧ sz' = sz ∧ env sh M' a k t (if aq W n w then c else if w = xref then aof u else c) (if aq W n w then n else n + 1) (if aq W n w then W else rset W n w) (if aq W n w then Y else lset Y n (u.take 60)) s ∧ fr (fun z => a ≤ z ∧ z ≤ a + 16) M M') := by
  have hh := h
  obtain ⟨h1, h2, h3, h4, h5, h6, h7, h8, h9, h10, h11, h12, h13, h14, h15, h16, h17⟩ := h
  refine Sp.ofGo (own := "CiteForge$Entry") (nm := "addField") (by decide) rfl rfl (Nat.le_of_ble_eq_true rfl) (lv := [(0, vr a), (1, vl w), (3, vr b)]) rfl ?_
  intro g X
  refine go_aload_n X d_Entry_addField_0 rfl rfl ?_
  refine go_get (v := vi n) X f_Entry_38 h1 rfl d_Entry_addField_1 (congrArg (s_v .int) h7) ?_
  refine go_bipush (v := 6) X d_Entry_addField_4 (by decide) ?_
  refine go_icmp_ge (tgt := 17) X d_Entry_addField_6 rfl (by omega) (by omega) (fun hq1 => ?_) (fun hq1 => ?_)
  · skip
    refine go_vret X d_Entry_addField_17 rfl (by omega) (by omega) ?_
    have g0 : aq W n w := by unfold aq; omega
    rw [if_pos g0, if_pos g0, if_pos g0, if_pos g0]
    exact ⟨rfl, rfl, rfl, hh, fun z _ => rfl⟩
  · skip
    refine go_aload_n X d_Entry_addField_9 rfl rfl ?_
    refine go_lload_n X d_Entry_addField_10 rfl rfl ?_
    have hop := c_Entry_ownField l D (sz := sz) hh (w := w) (by omega)
    rcases fx_rng (W := W) (n := n) (w := w) (by omega) with hf1 | ⟨hf1, hf2, hf3⟩
    · skip
      rw [show fq (a + 2) (fx W n w) = .null from if_neg (by omega)] at hop
      refine go_cVf (st2 := [.null]) (r := []) X k_Entry_45 hop h1 rfl rfl (by omega) (Nat.le_of_ble_eq_true rfl) d_Entry_addField_11 (by omega) (by omega) rfl ?_
      refine go_ifnullN (tgt := 18) X d_Entry_addField_14 rfl ?_
      refine go_aload_n X d_Entry_addField_18 rfl rfl ?_
      refine go_get (v := vr (a + 1)) X f_Entry_11 h1 rfl d_Entry_addField_19 (s_varr h8 (by omega)) ?_
      refine go_aload_n X d_Entry_addField_22 rfl rfl ?_
      refine go_get (v := vi n) X f_Entry_38 h1 rfl d_Entry_addField_23 (congrArg (s_v .int) h7) ?_
      refine go_lload_n X d_Entry_addField_26 rfl rfl ?_
      refine go_last X h2 (by omega) (by omega) d_Entry_addField_27 ?_
      generalize hM3 : m_s M (a + 1) n w = M2
      have e4 : M2 a 0 = k := by rw [← hM3]; exact (m_s_n (fun q => absurd q.1 (of_ne1 (by decide)))).trans h4
      have e5 : M2 a 1 = t := by rw [← hM3]; exact (m_s_n (fun q => absurd q.1 (of_ne1 (by decide)))).trans h5
      have e6 : M2 a 2 = c := by rw [← hM3]; exact (m_s_n (fun q => absurd q.1 (of_ne1 (by decide)))).trans h6
      have e7 : M2 a 3 = n := by rw [← hM3]; exact (m_s_n (fun q => absurd q.1 (of_ne1 (by decide)))).trans h7
      have e8 : M2 a 4 = a + 1 := by rw [← hM3]; exact (m_s_n (fun q => absurd q.1 (of_ne1 (by decide)))).trans h8
      have e9 : M2 a 5 = a + 2 := by rw [← hM3]; exact (m_s_n (fun q => absurd q.1 (of_ne1 (by decide)))).trans h9
      have e10 : M2 a 6 = a + 15 := by rw [← hM3]; exact (m_s_n (fun q => absurd q.1 (of_ne1 (by decide)))).trans h10
      have e11 : M2 (a + 1) n = w := by rw [← hM3, m_s_s]
      have tv12 := h17.kept (M' := M2) (by rw [← hM3]; exact m_s_a (by omega)) (by rw [← hM3]; exact m_s_a (by omega))
      have tv13 := hb.kept (M' := M2) (by rw [← hM3]; exact m_s_a (by omega)) (by rw [← hM3]; exact m_s_a (by omega))
      have fr14 : fr (fun z => a ≤ z ∧ z ≤ a + 16) M M2 := fun z hz => by
        have hz1 : ¬ (a ≤ z ∧ z ≤ a + 16) := hz
        rw [← hM3]; exact (m_s_a (by omega))
      have rw15 : M2 (a + 1) = rset W n w := by rw [← hM3]; exact row_set h13
      have tx16 : txs sh M2 (a + 2) 6 Y := h16.kept (fun z hz1 hz2 => by rw [← hM3]; exact m_s_a (by omega))
      refine go_aload_n X d_Entry_addField_28 rfl rfl ?_
      refine go_get (v := vr (a + 2)) X f_Entry_17 h1 rfl d_Entry_addField_29 (s_varr e9 (by omega)) ?_
      refine go_aload_n X d_Entry_addField_32 rfl rfl ?_
      refine go_get (v := vi n) X f_Entry_38 h1 rfl d_Entry_addField_33 (congrArg (s_v .int) e7) ?_
      obtain ⟨q17, hq18⟩ : ∃ q, q = a + 2 + 1 + 2 * (n) := ⟨_, rfl⟩
      obtain ⟨e19, tv20⟩ := tx16 (n) (by omega) (by omega)
      rw [← hq18] at e19 tv20
      refine go_aald X h3 (by omega) (by omega) d_Entry_addField_36 ?_
      refine go_top (v' := vr q17) X (s_qref e19 (by omega)) ?_
      refine go_aload_n X d_Entry_addField_37 rfl rfl ?_
      refine go_cV (st2 := []) (r := []) X k_Entry_49 (c_Text_setTo l D tv20 tv13 (by omega)) tv20.1.1 rfl rfl (by omega) (Nat.le_of_ble_eq_true rfl) d_Entry_addField_38 (by omega) (by omega) (fun v sh' M21 sz' hp22 => ?_)
      obtain ⟨e23, e24, e25, tv26, fr27⟩ := hp22
      subst e23
      rw [e24, e25]
      show Go g 0 0 sh M21 sz 41 [(0, vr a), (1, vl w), (3, vr b)] []
      have e28 : M21 a 0 = k := (congrFun (fr27 a (by omega)) _).trans e4
      have e29 : M21 a 1 = t := (congrFun (fr27 a (by omega)) _).trans e5
      have e30 : M21 a 2 = c := (congrFun (fr27 a (by omega)) _).trans e6
      have e31 : M21 a 3 = n := (congrFun (fr27 a (by omega)) _).trans e7
      have e32 : M21 a 4 = a + 1 := (congrFun (fr27 a (by omega)) _).trans e8
      have e33 : M21 a 5 = a + 2 := (congrFun (fr27 a (by omega)) _).trans e9
      have e34 : M21 a 6 = a + 15 := (congrFun (fr27 a (by omega)) _).trans e10
      have e35 : M21 (a + 2) n = q17 := (congrFun (fr27 (a + 2) (by omega)) _).trans e19
      have tv36 := tv12.kept (fr27 (a + 15) (by omega)) (fr27 (a + 15 + 1) (by omega))
      have tv37 := tv13.kept (fr27 b (by omega)) (fr27 (b + 1) (by omega))
      have fr38 : fr (fun z => a ≤ z ∧ z ≤ a + 16) M M21 := fun z hz => by
        have hz1 : ¬ (a ≤ z ∧ z ≤ a + 16) := hz
        exact (fr27 z (by omega)).trans (fr14 z hz)
      have rw39 : M21 (a + 1) = rset W n w := (fr27 (a + 1) (by omega)).trans rw15
      have tx40 : txs sh M21 (a + 2) 6 (lset Y n (u.take 60)) := tx16.set (by omega) (by rw [← hq18]; exact tv26) (fun z hz1 hz2 hz3 => fr27 z (by omega))
      clear e10 e19 e4 e5 e6 e7 e8 e9 fr14 fr27 rw15 tv12 tv13 tx16
      refine go_aload_n X d_Entry_addField_41 rfl rfl ?_
      refine go_dup X d_Entry_addField_42 rfl ?_
      refine go_get (v := vi n) X f_Entry_38 h1 rfl d_Entry_addField_43 (congrArg (s_v .int) e31) ?_
      refine go_iconst (v := 1) X d_Entry_addField_46 ?_
      refine go_iadd X d_Entry_addField_47 ?_
      refine go_put (x := (n + 1)) (v := vi (n + 1)) X f_Entry_38 h1 rfl d_Entry_addField_48 rfl rfl rfl ?_
      generalize hM42 : m_s M21 a 3 (n + 1) = M41
      have e43 : M41 a 0 = k := by rw [← hM42]; exact (m_s_n (fun q => absurd q.2 (by decide))).trans e28
      have e44 : M41 a 1 = t := by rw [← hM42]; exact (m_s_n (fun q => absurd q.2 (by decide))).trans e29
      have e45 : M41 a 2 = c := by rw [← hM42]; exact (m_s_n (fun q => absurd q.2 (by decide))).trans e30
      have e46 : M41 a 4 = a + 1 := by rw [← hM42]; exact (m_s_n (fun q => absurd q.2 (by decide))).trans e32
      have e47 : M41 a 5 = a + 2 := by rw [← hM42]; exact (m_s_n (fun q => absurd q.2 (by decide))).trans e33
      have e48 : M41 a 6 = a + 15 := by rw [← hM42]; exact (m_s_n (fun q => absurd q.2 (by decide))).trans e34
      have e49 : M41 (a + 2) n = q17 := by rw [← hM42]; exact (m_s_n (fun q => absurd q.1 (of_ne0 (by decide)))).trans e35
      have e50 : M41 a 3 = n + 1 := by rw [← hM42, m_s_s]
      have tv51 := tv36.kept (M' := M41) (by rw [← hM42]; exact m_s_a (by omega)) (by rw [← hM42]; exact m_s_a (by omega))
      have tv52 := tv37.kept (M' := M41) (by rw [← hM42]; exact m_s_a (by omega)) (by rw [← hM42]; exact m_s_a (by omega))
      have tv53 := tv26.kept (M' := M41) (by rw [← hM42]; exact m_s_a (by omega)) (by rw [← hM42]; exact m_s_a (by omega))
      have fr54 : fr (fun z => a ≤ z ∧ z ≤ a + 16) M M41 := fun z hz => by
        have hz1 : ¬ (a ≤ z ∧ z ≤ a + 16) := hz
        rw [← hM42]; exact (m_s_a (by omega)).trans (fr38 z hz)
      have rw55 : M41 (a + 1) = rset W n w := by rw [← hM42]; exact (m_s_a (of_ne0 (by decide))).trans rw39
      have tx56 : txs sh M41 (a + 2) 6 (lset Y n (u.take 60)) := tx40.kept (fun z hz1 hz2 => by rw [← hM42]; exact m_s_a (of_gt hz1 (by decide)))
      clear e28 e29 e30 e31 e32 e33 e34 e35 fr38 rw39 tv26 tv36 tv37 tx40
      refine go_lload_n X d_Entry_addField_51 rfl rfl ?_
      refine go_ldc2 (x := 7378429404699914851) X w_kl_Entry_53 (by decide) d_Entry_addField_52 ?_
      refine go_lcmp X (by omega) (by omega) d_Entry_addField_55 ?_
      have hc0 := s_cmp_rng w 7378429404699914851
      refine go_if_ne (tgt := 67) X d_Entry_addField_56 rfl (by omega) (fun hq57 => ?_) (fun hq57 => ?_)
      · skip
        refine go_vret X d_Entry_addField_67 rfl (by omega) (by omega) ?_
        have g0 : ¬ aq W n w := by unfold aq; omega
        rw [if_neg g0, if_neg g0, if_neg g0, if_neg g0]
        have g1 : ¬ w = xref := fun q => hq57 (by rw [q]; decide)
        rw [if_neg g1]
        have g3 : ∀ i, rL (rset W n w i) := fun i => by
          unfold rset
          split
          · omega
          · exact h14 i
        exact ⟨rfl, rfl, rfl, ⟨h1, h2, h3, e43, e44, e45, e50, e46, e47, e48, (by omega), h12, rw55, g3, ⟨h15.1, h15.2.1, by omega⟩, tx56, tv51⟩, fr54⟩
      · skip
        refine go_aload_n X d_Entry_addField_59 rfl rfl ?_
        refine go_aload_n X d_Entry_addField_60 rfl rfl ?_
        refine go_cVf (st2 := [vl (aof u), vr a]) (r := [vr a]) X k_Entry_55 (c_Text_asWord l D tv52) hb.1.1 rfl rfl (by omega) (Nat.le_of_ble_eq_true rfl) d_Entry_addField_61 (by omega) (by omega) rfl ?_
        refine go_put (x := (aof u)) (v := vl (aof u)) X f_Entry_35 h1 rfl d_Entry_addField_64 rfl rfl rfl ?_
        generalize hM59 : m_s M41 a 2 (aof u) = M58
        have e60 : M58 a 0 = k := by rw [← hM59]; exact (m_s_n (fun q => absurd q.2 (by decide))).trans e43
        have e61 : M58 a 1 = t := by rw [← hM59]; exact (m_s_n (fun q => absurd q.2 (by decide))).trans e44
        have e62 : M58 a 4 = a + 1 := by rw [← hM59]; exact (m_s_n (fun q => absurd q.2 (by decide))).trans e46
        have e63 : M58 a 5 = a + 2 := by rw [← hM59]; exact (m_s_n (fun q => absurd q.2 (by decide))).trans e47
        have e64 : M58 a 6 = a + 15 := by rw [← hM59]; exact (m_s_n (fun q => absurd q.2 (by decide))).trans e48
        have e65 : M58 (a + 2) n = q17 := by rw [← hM59]; exact (m_s_n (fun q => absurd q.1 (of_ne0 (by decide)))).trans e49
        have e66 : M58 a 3 = n + 1 := by rw [← hM59]; exact (m_s_n (fun q => absurd q.2 (by decide))).trans e50
        have e67 : M58 a 2 = aof u := by rw [← hM59, m_s_s]
        have tv68 := tv51.kept (M' := M58) (by rw [← hM59]; exact m_s_a (by omega)) (by rw [← hM59]; exact m_s_a (by omega))
        have tv69 := tv52.kept (M' := M58) (by rw [← hM59]; exact m_s_a (by omega)) (by rw [← hM59]; exact m_s_a (by omega))
        have tv70 := tv53.kept (M' := M58) (by rw [← hM59]; exact m_s_a (by omega)) (by rw [← hM59]; exact m_s_a (by omega))
        have fr71 : fr (fun z => a ≤ z ∧ z ≤ a + 16) M M58 := fun z hz => by
          have hz1 : ¬ (a ≤ z ∧ z ≤ a + 16) := hz
          rw [← hM59]; exact (m_s_a (by omega)).trans (fr54 z hz)
        have rw72 : M58 (a + 1) = rset W n w := by rw [← hM59]; exact (m_s_a (of_ne0 (by decide))).trans rw55
        have tx73 : txs sh M58 (a + 2) 6 (lset Y n (u.take 60)) := tx56.kept (fun z hz1 hz2 => by rw [← hM59]; exact m_s_a (of_gt hz1 (by decide)))
        clear e43 e44 e45 e46 e47 e48 e49 e50 fr54 rw55 tv51 tv52 tv53 tx56
        refine go_vret X d_Entry_addField_67 rfl (by omega) (by omega) ?_
        have g0 : ¬ aq W n w := by unfold aq; omega
        rw [if_neg g0, if_neg g0, if_neg g0, if_neg g0]
        have g1 : w = xref := s_cmp0 hq57
        rw [if_pos g1]
        have g2 := aof_rng u
        have g3 : ∀ i, rL (rset W n w i) := fun i => by
          unfold rset
          split
          · omega
          · exact h14 i
        exact ⟨rfl, rfl, rfl, ⟨h1, h2, h3, e60, e61, e67, e66, e62, e63, e64, (by omega), h12, rw72, g3, ⟨h15.1, h15.2.1, by omega⟩, tx73, tv68⟩, fr71⟩
    · skip
      rw [show fq (a + 2) (fx W n w) = vr (a + 2 + 1 + 2 * fx W n w) from if_pos (by omega)] at hop
      refine go_cVf (st2 := [vr (a + 2 + 1 + 2 * fx W n w)]) (r := []) X k_Entry_45 hop h1 rfl rfl (by omega) (Nat.le_of_ble_eq_true rfl) d_Entry_addField_11 (by omega) (by omega) rfl ?_
      refine go_ifnull X d_Entry_addField_14 ?_
      refine go_vret X d_Entry_addField_17 rfl (by omega) (by omega) ?_
      have g0 : aq W n w := by unfold aq; omega
      rw [if_pos g0, if_pos g0, if_pos g0, if_pos g0]
      exact ⟨rfl, rfl, rfl, hh, fun z _ => rfl⟩
