/-- the entry of a place, or null; the keys; a field's place in an entry; the place of a field, own or of the entry that crossref names -/
abbrev eq_ (p j : Int) : Value := if 0 ≤ j then vr (p + 2 + 17 * j) else .null
abbrev kE (E : Int → sen) : Int → Int := fun i => (E i).1.1
def fE (E : Int → sen) (j v : Int) : Int := fx (E j).2.1 (E j).1.2.2.2 v
def cE (E : Int → sen) (n j : Int) : Int := fx (kE E) n (E j).1.2.2.1
def fo (E : Int → sen) (n j v : Int) : Int × Int := if v = 0 then (j, -1) else if 0 ≤ fE E j v ∨ v = xref then (j, fE E j v) else if 0 ≤ cE E n j then (cE E n j, fE E (cE E n j) v) else (j, -1)
theorem shv.ent {sh : s_S} {M : s_M} {p w n : Int} {E : Int → sen} (h : shv sh M p w n E) {i : Int} (h0 : 0 ≤ i) (h1 : i < 9) : M (p + 1) i = p + 2 + 17 * i ∧ enx sh M (p + 2 + 17 * i) (E i) := by
  have q := h.2.2.2.2.2.2.2.2.2.2 i h0 h1
  rw [show p + 1 + 1 + 17 * i = p + 2 + 17 * i by omega] at q
  exact q
set_option maxHeartbeats 4000000 in
set_option maxRecDepth 100000 in
theorem c_Shelf_entryAt (l : Launch) (D : va_G) {sh : s_S} {M : s_M} {sz p w n : Int} {E : Int → sen} (h : shv sh M p w n E) {i : Int} (hi : 0 ≤ i ∧ i < 9) : Sp l D y_Shelf_entryAt prog_9_method_4_code 2 (some (.object "CiteForge$Entry")) 1 0 0 [vr p, vi i] sh M sz (pF (some (vr (p + 2 + 17 * i))) sh M sz) := by
  have hh := h
  obtain ⟨h1, h2, h3, h4, h5, h6, h7, h8, h9, h10, h11⟩ := h
  refine Sp.ofGo (own := "CiteForge$Shelf") (nm := "entryAt") (by decide) rfl rfl (Nat.le_of_ble_eq_true rfl) (lv := [(0, vr p), (1, vi i)]) rfl ?_
  intro g X
  refine go_aload_n X d_Shelf_entryAt_0 rfl rfl ?_
  refine go_get (v := vr (p + 1)) X f_Shelf_17 h1 rfl d_Shelf_entryAt_1 (s_varr h4 (by omega)) ?_
  refine go_iload_n X d_Shelf_entryAt_4 rfl rfl ?_
  obtain ⟨e1, en2⟩ := hh.ent (i := i) (by omega) (by omega)
  have e3 := en2.2.2.2.1
  have rl4 := en2.2.2.2.2.2.2.2.2.2.2.2.2.2.2.1.1
  refine go_aald X h2 (by omega) (by omega) d_Shelf_entryAt_5 ?_
  refine go_top (v' := vr (p + 2 + 17 * i)) X (s_qref e1 (by omega)) ?_
  refine go_aret X d_Shelf_entryAt_6 rfl (Or.inl ⟨_, rfl⟩) (Or.inr ⟨_, rfl⟩) (by omega) (by omega) ?_
  exact ⟨rfl, rfl, rfl, rfl⟩
set_option maxHeartbeats 4000000 in
set_option maxRecDepth 100000 in
theorem c_Shelf_draft (l : Launch) (D : va_G) {sh : s_S} {M : s_M} {sz p w n : Int} {E : Int → sen} (h : shv sh M p w n E) : Sp l D y_Shelf_draft prog_9_method_5_code 1 (some (.object "CiteForge$Entry")) 1 0 0 [vr p] sh M sz (pF (some (vr (p + 2 + 17 * n))) sh M sz) := by
  have hh := h
  obtain ⟨h1, h2, h3, h4, h5, h6, h7, h8, h9, h10, h11⟩ := h
  refine Sp.ofGo (own := "CiteForge$Shelf") (nm := "draft") (by decide) rfl rfl (Nat.le_of_ble_eq_true rfl) (lv := [(0, vr p)]) rfl ?_
  intro g X
  refine go_aload_n X d_Shelf_draft_0 rfl rfl ?_
  refine go_get (v := vr (p + 1)) X f_Shelf_17 h1 rfl d_Shelf_draft_1 (s_varr h4 (by omega)) ?_
  refine go_aload_n X d_Shelf_draft_4 rfl rfl ?_
  refine go_get (v := vi n) X f_Shelf_22 h1 rfl d_Shelf_draft_5 (congrArg (s_v .int) h6) ?_
  obtain ⟨e1, en2⟩ := hh.ent (i := n) (by omega) (by omega)
  have e3 := en2.2.2.2.1
  have rl4 := en2.2.2.2.2.2.2.2.2.2.2.2.2.2.2.1.1
  refine go_aald X h2 (by omega) (by omega) d_Shelf_draft_8 ?_
  refine go_top (v' := vr (p + 2 + 17 * n)) X (s_qref e1 (by omega)) ?_
  refine go_aret X d_Shelf_draft_9 rfl (Or.inl ⟨_, rfl⟩) (Or.inr ⟨_, rfl⟩) (by omega) (by omega) ?_
  exact ⟨rfl, rfl, rfl, rfl⟩
set_option maxHeartbeats 4000000 in
set_option maxRecDepth 100000 in
theorem c_Shelf_find (l : Launch) (D : va_G) {sh : s_S} {M : s_M} {sz p w n : Int} {E : Int → sen} (h : shv sh M p w n E) {v : Int} (hv : rL v) : Sp l D y_Shelf_find prog_9_method_7_code 4 (some (.object "CiteForge$Entry")) 1 0 0 [vr p, vl v] sh M sz (pF (some (eq_ p (fx (kE E) n v))) sh M sz) := by
  have hh := h
  obtain ⟨h1, h2, h3, h4, h5, h6, h7, h8, h9, h10, h11⟩ := h
  refine Sp.ofGo (own := "CiteForge$Shelf") (nm := "find") (by decide) rfl rfl (Nat.le_of_ble_eq_true rfl) (lv := [(0, vr p), (1, vl v)]) rfl ?_
  intro g X
  refine go_iconst (v := 0) X d_Shelf_find_0 ?_
  refine go_istore_n (lv' := [(3, vi 0), (0, vr p), (1, vl v)]) X d_Shelf_find_1 rfl (by decide) rfl ?_
  have loop : ∀ (fuel : Nat) (i : Int), (0 ≤ i) → (i ≤ n) → (fi (kE E) v (n - i).toNat i = fx (kE E) n v) → (n - i).toNat < fuel → Go g 0 0 sh M sz 2 [(0, vr p), (1, vl v), (3, vi i)] [] := by
    intro fuel
    induction fuel with
    | zero => intro i hi hi2 hp hm_loop; exact absurd hm_loop (Nat.not_lt_zero _)
    | succ fuel ih_loop =>
      intro i hi hi2 hp hm_loop
      refine go_iload_n X d_Shelf_find_2 rfl rfl ?_
      refine go_aload_n X d_Shelf_find_3 rfl rfl ?_
      refine go_get (v := vi n) X f_Shelf_22 h1 rfl d_Shelf_find_4 (congrArg (s_v .int) h6) ?_
      refine go_icmp_ge (tgt := 37) X d_Shelf_find_7 rfl (by omega) (by omega) (fun hq1 => ?_) (fun hq1 => ?_)
      · skip
        refine go_null X d_Shelf_find_37 ?_
        refine go_aret X d_Shelf_find_38 rfl (Or.inl ⟨_, rfl⟩) (Or.inl rfl) (by omega) (by omega) ?_
        rw [fi_end (by omega)] at hp
        exact ⟨by rw [← hp]; rfl, rfl, rfl, rfl⟩
      · skip
        refine go_aload_n X d_Shelf_find_10 rfl rfl ?_
        refine go_get (v := vr (p + 1)) X f_Shelf_17 h1 rfl d_Shelf_find_11 (s_varr h4 (by omega)) ?_
        refine go_iload_n X d_Shelf_find_14 rfl rfl ?_
        obtain ⟨e2, en3⟩ := hh.ent (i := i) (by omega) (by omega)
        have e4 := en3.2.2.2.1
        have rl5 := en3.2.2.2.2.2.2.2.2.2.2.2.2.2.2.1.1
        refine go_aald X h2 (by omega) (by omega) d_Shelf_find_15 ?_
        refine go_top (v' := vr (p + 2 + 17 * i)) X (s_qref e2 (by omega)) ?_
        refine go_get (v := vl ((E i).1.1)) X f_Shelf_30 en3.1 rfl d_Shelf_find_16 (congrArg (s_v .long) e4) ?_
        refine go_lload_n X d_Shelf_find_19 rfl rfl ?_
        have hc0 := s_cmp_rng (E i).1.1 v
        refine go_lcmp X (by omega) (by omega) d_Shelf_find_20 ?_
        refine go_if_ne (tgt := 31) X d_Shelf_find_21 rfl (by omega) (fun hq6 => ?_) (fun hq6 => ?_)
        · skip
          have hn : fi (kE E) v (n - (i + 1)).toNat (i + 1) = fx (kE E) n v := (fi_nxt (by omega) (fun q => hq6 (by rw [show (E i).1.1 = v from q]; unfold s_cmp; rw [if_neg (by omega), if_pos rfl]))).symm.trans hp
          refine go_iinc (v := 1) (x := i) (lv' := [(3, vi (i + 1)), (0, vr p), (1, vl v)]) X d_Shelf_find_31 rfl (by decide) rfl ?_
          refine go_goto (tgt := 2) X d_Shelf_find_34 rfl ?_
          refine go_lv (lv' := [(0, vr p), (1, vl v), (3, vi (i + 1))]) X [1, 2, 0] rfl ?_
          exact ih_loop (i + 1) (by omega) (by omega) hn (by omega)
        · skip
          refine go_aload_n X d_Shelf_find_24 rfl rfl ?_
          refine go_get (v := vr (p + 1)) X f_Shelf_17 h1 rfl d_Shelf_find_25 (s_varr h4 (by omega)) ?_
          refine go_iload_n X d_Shelf_find_28 rfl rfl ?_
          obtain ⟨e7, en8⟩ := hh.ent (i := i) (by omega) (by omega)
          have e9 := en8.2.2.2.1
          have rl10 := en8.2.2.2.2.2.2.2.2.2.2.2.2.2.2.1.1
          refine go_aald X h2 (by omega) (by omega) d_Shelf_find_29 ?_
          refine go_top (v' := vr (p + 2 + 17 * i)) X (s_qref e7 (by omega)) ?_
          refine go_aret X d_Shelf_find_30 rfl (Or.inl ⟨_, rfl⟩) (Or.inr ⟨_, rfl⟩) (by omega) (by omega) ?_
          rw [fi_hit (W := kE E) (by omega) (s_cmp0 hq6)] at hp
          exact ⟨by rw [← hp]; unfold eq_; rw [if_pos (by omega)], rfl, rfl, rfl⟩
  refine go_lv (lv' := [(0, vr p), (1, vl v), (3, vi 0)]) X [1, 2, 0] rfl ?_
  exact loop _ 0 (by omega) (by omega) rfl (Nat.lt_succ_self _)
/-- keeping the draft: the new count, the warnings -/
def kdn (E : Int → sen) (n : Int) : Int := if 0 ≤ fx (kE E) n (E n).1.1 then n else if 8 ≤ n then n else n + 1
def kdW (E : Int → sen) (n : Int) (W : Int → Int) : Int → Int := if 0 ≤ fx (kE E) n (E n).1.1 then inc W 4 else if 8 ≤ n then inc W 5 else W
set_option maxHeartbeats 4000000 in
set_option maxRecDepth 100000 in
theorem c_Shelf_keepDraft (l : Launch) (D : va_G) {sh : s_S} {M : s_M} {sz p w n : Int} {E : Int → sen} (h : shv sh M p w n E) {W : Int → Int} (hW : M w = W) : Sp l D y_Shelf_keepDraft prog_9_method_6_code 1 none 2 0 0 [vr p] sh M sz (fun v' sh' M' sz' => v' = none ∧ sh' = sh ∧ sz' = sz ∧ shv sh M' p w (kdn E n) E ∧ M' w = kdW E n W ∧ fr (fun z => z = p ∨ z = w) M M') := by
  have hh := h
  obtain ⟨h1, h2, h3, h4, h5, h6, h7, h8, h9, h10, h11⟩ := h
  refine Sp.ofGo (own := "CiteForge$Shelf") (nm := "keepDraft") (by decide) rfl rfl (Nat.le_of_ble_eq_true rfl) (lv := [(0, vr p)]) rfl ?_
  intro g X
  refine go_aload_n X d_Shelf_keepDraft_0 rfl rfl ?_
  refine go_aload_n X d_Shelf_keepDraft_1 rfl rfl ?_
  refine go_cVf (st2 := [vr (p + 2 + 17 * n), vr p]) (r := [vr p]) X k_Shelf_26 (c_Shelf_draft l D hh) h1 rfl rfl (by omega) (Nat.le_of_ble_eq_true rfl) d_Shelf_keepDraft_2 (by omega) (by omega) rfl ?_
  obtain ⟨er, en⟩ := hh.ent (i := n) (by omega) (by omega)
  have ek := en.2.2.2.1
  have rl := en.2.2.2.2.2.2.2.2.2.2.2.2.2.2.1.1
  refine go_get (v := vl ((E n).1.1)) X f_Shelf_30 en.1 rfl d_Shelf_keepDraft_5 (congrArg (s_v .long) ek) ?_
  have hop1 := c_Shelf_find l D (sz := sz) hh (v := (E n).1.1) (by omega)
  rcases fx_rng (W := kE E) (n := n) (w := (E n).1.1) (by omega) with hf1 | ⟨hf1, hf2, hf3⟩
  · skip
    rw [show (eq_ p (fx (kE E) n (E n).1.1)) = .null from if_neg (by rw [hf1]; decide)] at hop1
    refine go_cVf (st2 := [.null]) (r := []) X k_Shelf_34 hop1 h1 rfl rfl (by omega) (Nat.le_of_ble_eq_true rfl) d_Shelf_keepDraft_8 (by omega) (by omega) rfl ?_
    refine go_ifnullN (tgt := 27) X d_Shelf_keepDraft_11 rfl ?_
    refine go_aload_n X d_Shelf_keepDraft_27 rfl rfl ?_
    refine go_get (v := vi n) X f_Shelf_22 h1 rfl d_Shelf_keepDraft_28 (congrArg (s_v .int) h6) ?_
    refine go_bipush (v := 8) X d_Shelf_keepDraft_31 (by decide) ?_
    refine go_icmp_lt (tgt := 49) X d_Shelf_keepDraft_33 rfl (by omega) (by omega) (fun hq2 => ?_) (fun hq2 => ?_)
    · skip
      refine go_aload_n X d_Shelf_keepDraft_49 rfl rfl ?_
      refine go_dup X d_Shelf_keepDraft_50 rfl ?_
      refine go_get (v := vi n) X f_Shelf_22 h1 rfl d_Shelf_keepDraft_51 (congrArg (s_v .int) h6) ?_
      refine go_iconst (v := 1) X d_Shelf_keepDraft_54 ?_
      refine go_iadd X d_Shelf_keepDraft_55 ?_
      refine go_put (x := (n + 1)) (v := vi (n + 1)) X f_Shelf_22 h1 rfl d_Shelf_keepDraft_56 rfl rfl rfl ?_
      generalize hM4 : m_s M p 2 (n + 1) = M3
      have e5 : M3 p 0 = p + 1 := by rw [← hM4]; exact (m_s_n (fun q => absurd q.2 (by decide))).trans h4
      have e6 : M3 p 1 = w := by rw [← hM4]; exact (m_s_n (fun q => absurd q.2 (by decide))).trans h5
      have e7 : M3 p 2 = n + 1 := by rw [← hM4, m_s_s]
      have fr8 : fr (fun z => z = p ∨ z = w) M M3 := fun z hz => by
        have hz1 : ¬ (z = p ∨ z = w) := hz
        rw [← hM4]; exact (m_s_a (by omega))
      have rw9 : M3 w = W := by rw [← hM4]; exact (m_s_a (by omega)).trans hW
      refine go_vret X d_Shelf_keepDraft_59 rfl (by omega) (by omega) ?_
      have g1 : kdn E n = n + 1 := (if_neg (by rw [hf1]; decide)).trans (if_neg (by omega))
      have g2 : kdW E n W = W := (if_neg (by rw [hf1]; decide)).trans (if_neg (by omega))
      rw [g1, g2]
      have g5 := h11.mv (by decide) lE_loc (sh' := sh) (M' := M3) (fun z q1 q2 => ⟨rfl, fr8 z (by omega)⟩)
      exact ⟨rfl, rfl, rfl, ⟨h1, h2, h3, e5, e6, e7, by omega, h8, h9, h10, g5⟩, rw9, fr8⟩
    · skip
      refine go_aload_n X d_Shelf_keepDraft_36 rfl rfl ?_
      refine go_get (v := vr w) X f_Shelf_9 h1 rfl d_Shelf_keepDraft_37 (s_varr h5 (by omega)) ?_
      refine go_iconst (v := 5) X d_Shelf_keepDraft_40 ?_
      refine go_dup2 X d_Shelf_keepDraft_41 rfl rfl ?_
      refine go_iald X h3 (by omega) (by omega) d_Shelf_keepDraft_42 ?_
      refine go_top (v' := vi (W 5)) X (by rw [hW]) ?_
      refine go_iconst (v := 1) X d_Shelf_keepDraft_43 ?_
      refine go_iadd X d_Shelf_keepDraft_44 ?_
      refine go_iast X h3 (by omega) (by omega) d_Shelf_keepDraft_45 ?_
      generalize hM11 : m_s M w 5 ((W 5) + 1) = M10
      have e12 : M10 p 0 = p + 1 := by rw [← hM11]; exact (m_s_n (by omega)).trans h4
      have e13 : M10 p 1 = w := by rw [← hM11]; exact (m_s_n (by omega)).trans h5
      have e14 : M10 p 2 = n := by rw [← hM11]; exact (m_s_n (by omega)).trans h6
      have e15 : M10 w 5 = (W 5) + 1 := by rw [← hM11, m_s_s]
      have fr16 : fr (fun z => z = p ∨ z = w) M M10 := fun z hz => by
        have hz1 : ¬ (z = p ∨ z = w) := hz
        rw [← hM11]; exact (m_s_a (by omega))
      have rw17 : M10 w = inc W 5 := by rw [← hM11]; exact row_inc hW
      refine go_goto (tgt := 59) X d_Shelf_keepDraft_46 rfl ?_
      refine go_vret X d_Shelf_keepDraft_59 rfl (by omega) (by omega) ?_
      have g1 : kdn E n = n := (if_neg (by rw [hf1]; decide)).trans (if_pos (by omega))
      have g2 : kdW E n W = inc W 5 := (if_neg (by rw [hf1]; decide)).trans (if_pos (by omega))
      rw [g1, g2]
      have g5 := h11.mv (by decide) lE_loc (sh' := sh) (M' := M10) (fun z q1 q2 => ⟨rfl, fr16 z (by omega)⟩)
      exact ⟨rfl, rfl, rfl, ⟨h1, h2, h3, e12, e13, e14, by omega, h8, h9, h10, g5⟩, rw17, fr16⟩
  · skip
    rw [show (eq_ p (fx (kE E) n (E n).1.1)) = vr (p + 2 + 17 * fx (kE E) n (E n).1.1) from if_pos (by omega)] at hop1
    refine go_cVf (st2 := [vr (p + 2 + 17 * fx (kE E) n (E n).1.1)]) (r := []) X k_Shelf_34 hop1 h1 rfl rfl (by omega) (Nat.le_of_ble_eq_true rfl) d_Shelf_keepDraft_8 (by omega) (by omega) rfl ?_
    refine go_ifnull X d_Shelf_keepDraft_11 ?_
    refine go_aload_n X d_Shelf_keepDraft_14 rfl rfl ?_
    refine go_get (v := vr w) X f_Shelf_9 h1 rfl d_Shelf_keepDraft_15 (s_varr h5 (by omega)) ?_
    refine go_iconst (v := 4) X d_Shelf_keepDraft_18 ?_
    refine go_dup2 X d_Shelf_keepDraft_19 rfl rfl ?_
    refine go_iald X h3 (by omega) (by omega) d_Shelf_keepDraft_20 ?_
    refine go_top (v' := vi (W 4)) X (by rw [hW]) ?_
    refine go_iconst (v := 1) X d_Shelf_keepDraft_21 ?_
    refine go_iadd X d_Shelf_keepDraft_22 ?_
    refine go_iast X h3 (by omega) (by omega) d_Shelf_keepDraft_23 ?_
    generalize hM19 : m_s M w 4 ((W 4) + 1) = M18
    have e20 : M18 p 0 = p + 1 := by rw [← hM19]; exact (m_s_n (by omega)).trans h4
    have e21 : M18 p 1 = w := by rw [← hM19]; exact (m_s_n (by omega)).trans h5
    have e22 : M18 p 2 = n := by rw [← hM19]; exact (m_s_n (by omega)).trans h6
    have e23 : M18 w 4 = (W 4) + 1 := by rw [← hM19, m_s_s]
    have fr24 : fr (fun z => z = p ∨ z = w) M M18 := fun z hz => by
      have hz1 : ¬ (z = p ∨ z = w) := hz
      rw [← hM19]; exact (m_s_a (by omega))
    have rw25 : M18 w = inc W 4 := by rw [← hM19]; exact row_inc hW
    refine go_goto (tgt := 59) X d_Shelf_keepDraft_24 rfl ?_
    refine go_vret X d_Shelf_keepDraft_59 rfl (by omega) (by omega) ?_
    have g1 : kdn E n = n := if_pos hf1
    have g2 : kdW E n W = inc W 4 := if_pos hf1
    rw [g1, g2]
    have g5 := h11.mv (by decide) lE_loc (sh' := sh) (M' := M18) (fun z q1 q2 => ⟨rfl, fr24 z (by omega)⟩)
    exact ⟨rfl, rfl, rfl, ⟨h1, h2, h3, e20, e21, e22, by omega, h8, h9, h10, g5⟩, rw25, fr24⟩
