def eset (E : Int → sen) (j : Int) (e : sen) : Int → sen := fun i => if i = j then e else E i
/-- an entry whose sort key is empty again -/
def srt (e : sen) : sen := (e.1, e.2.1, e.2.2.1, [])
theorem shv.set {sh : s_S} {M M' : s_M} {p w n j : Int} {E : Int → sen} {e : sen} (h : shv sh M p w n E) (hj : 0 ≤ j ∧ j < 9) (hx : enx sh M' (p + 2 + 17 * j) e) (hf : ∀ z, p ≤ z → z < p + 155 → ¬ (p + 2 + 17 * j ≤ z ∧ z < p + 2 + 17 * j + 17) → M' z = M z) : shv sh M' p w n (eset E j e) := by
  obtain ⟨q1, q2, q3, q4, q5, q6, q7, q8, q9, q10, q11⟩ := h
  have e0 := hf p (by omega) (by omega) (by omega)
  refine ⟨q1, q2, q3, by rw [e0]; exact q4, by rw [e0]; exact q5, by rw [e0]; exact q6, q7, q8, q9, q10, fun i h0 h1 => ?_⟩
  obtain ⟨g1, g2⟩ := q11 i h0 h1
  refine ⟨by rw [hf (p + 1) (by omega) (by omega) (by omega)]; exact g1, ?_⟩
  show enx sh M' (p + 1 + 1 + 17 * i) (eset E j e i)
  unfold eset
  by_cases hi : i = j
  · subst hi
    rw [if_pos rfl, show p + 1 + 1 + 17 * i = p + 2 + 17 * i by omega]
    exact hx
  · rw [if_neg hi]
    exact enx.mv g2 (fun z z1 z2 => ⟨rfl, hf z (by omega) (by omega) (by omega)⟩)
theorem enx.srt {sh : s_S} {M M' : s_M} {a : Int} {e : sen} (h : enx sh M a e) (ht : tv sh M' (a + 15) 60 []) (hf : ∀ z, a ≤ z → z < a + 15 → M' z = M z) : enx sh M' a (srt e) := by
  obtain ⟨q1, q2, q3, q4, q5, q6, q7, q8, q9, q10, q11, q12, q13, q14, q15, q16, q17⟩ := h
  have e0 := hf a (by omega) (by omega)
  exact ⟨q1, q2, q3, by rw [e0]; exact q4, by rw [e0]; exact q5, by rw [e0]; exact q6, by rw [e0]; exact q7, by rw [e0]; exact q8, by rw [e0]; exact q9, by rw [e0]; exact q10, q11, q12, by rw [hf (a + 1) (by omega) (by omega)]; exact q13, q14, q15, q16.mv (fun z z1 z2 => ⟨rfl, hf z (by omega) (by omega)⟩), ht⟩
theorem civ.push {sh : s_S} {M M' : s_M} {p s w n m q : Int} {W L : Int → Int} (h : civ sh M p s w n m W L) (hm : m < 8) (hq : 0 ≤ q ∧ q < 8) (e0 : ∀ j : Int, j ≠ 5 → M' p j = M p j) (e1 : M' p 5 = m + 1) (e2 : M' (p + 1) = M (p + 1)) (e3 : ∀ i : Int, i ≠ m → M' (p + 2) i = M (p + 2) i) (e4 : M' (p + 2) m = s + 2 + 17 * q) : civ sh M' p s w n (m + 1) W (rset L m q) := by
  obtain ⟨q1, q2, q3, q4, q5, q6, q7, q8, q9, q10, q11, q12, q13, q14, q15, q16, q17, q18, q19⟩ := h
  refine ⟨q1, q2, q3, q4, (e0 _ (by decide)).trans q5, (e0 _ (by decide)).trans q6, (e0 _ (by decide)).trans q7, (e0 _ (by decide)).trans q8, (e0 _ (by decide)).trans q9, e1, q11, by omega, q13, q14, q15, q16, e2.trans q17, q18, fun i h1 h2 => ?_⟩
  unfold rset
  by_cases hi : i = m
  · subst hi
    rw [if_pos rfl]
    exact ⟨hq, e4⟩
  · rw [if_neg hi]
    exact ⟨(q19 i h1 (by omega)).1, (e3 i hi).trans (q19 i h1 (by omega)).2⟩
theorem civ.keep {sh : s_S} {M M' : s_M} {p s w n m : Int} {W L : Int → Int} (h : civ sh M p s w n m W L) (e0 : M' p = M p) (e1 : M' (p + 1) = M (p + 1)) (e2 : M' (p + 2) = M (p + 2)) : civ sh M' p s w n m W L := h.mv (fun z h1 h2 => ⟨rfl, by
  rcases (show z = p ∨ z = p + 1 ∨ z = p + 2 by omega) with r | r | r
  · rw [r]; exact e0
  · rw [r]; exact e1
  · rw [r]; exact e2⟩) rfl
set_option maxHeartbeats 4000000 in
set_option maxRecDepth 100000 in
theorem c_Shelf_fieldOf (l : Launch) (D : va_G) {sh : s_S} {M : s_M} {sz p w n : Int} {E : Int → sen} (h : shv sh M p w n E) {j v : Int} (hj : 0 ≤ j ∧ j < 9) (hv : rL v) : Sp l D y_Shelf_fieldOf prog_9_method_8_code 6 (some (.object "CiteForge$Text")) 3 0 0 [vr p, vr (p + 2 + 17 * j), vl v] sh M sz (pF (some (fq (p + 2 + 17 * (fo E n j v).1 + 2) (fo E n j v).2)) sh M sz) := by
  have hh := h
  obtain ⟨h1, h2, h3, h4, h5, h6, h7, h8, h9, h10, h11⟩ := h
  obtain ⟨er, en⟩ := hh.ent (i := j) (by omega) (by omega)
  have ec := en.2.2.2.2.2.1
  have rlc := en.2.2.2.2.2.2.2.2.2.2.2.2.2.2.1.2.2
  have nr := en.2.2.2.2.2.2.2.2.2.2.1
  refine Sp.ofGo (own := "CiteForge$Shelf") (nm := "fieldOf") (by decide) rfl rfl (Nat.le_of_ble_eq_true rfl) (lv := [(0, vr p), (1, vr (p + 2 + 17 * j)), (2, vl v)]) rfl ?_
  intro g X
  refine go_lload_n X d_Shelf_fieldOf_0 rfl rfl ?_
  refine go_lconst (x := 0) X d_Shelf_fieldOf_1 (by decide) ?_
  refine go_lcmp X (by omega) (by omega) d_Shelf_fieldOf_2 ?_
  have hc0 := s_cmp_rng v 0
  refine go_if_ne (tgt := 8) X d_Shelf_fieldOf_3 rfl (by omega) (fun hq1 => ?_) (fun hq1 => ?_)
  · skip
    refine go_aload_n X d_Shelf_fieldOf_8 rfl rfl ?_
    refine go_lload_n X d_Shelf_fieldOf_9 rfl rfl ?_
    have hop2 := c_Entry_ownField l D (sz := sz) en (w := v) hv
    rcases fx_rng (W := (E j).2.1) (n := (E j).1.2.2.2) (w := v) (by omega) with hf1a | ⟨hf1a, hf2a, hf3a⟩
    · skip
      rw [show (fq (p + 2 + 17 * j + 2) (fx (E j).2.1 (E j).1.2.2.2 v)) = .null from if_neg (by rw [hf1a]; decide)] at hop2
      refine go_cVf (st2 := [.null]) (r := []) X k_Shelf_38 hop2 en.1 rfl rfl (by omega) (Nat.le_of_ble_eq_true rfl) d_Shelf_fieldOf_10 (by omega) (by omega) rfl ?_
      refine go_astoreN (lv' := [(4, .null), (0, vr p), (1, vr (p + 2 + 17 * j)), (2, vl v)]) X d_Shelf_fieldOf_13 (by decide) rfl ?_
      refine go_aloadN X d_Shelf_fieldOf_15 rfl ?_
      refine go_ifnonnullN X d_Shelf_fieldOf_17 ?_
      refine go_lload_n X d_Shelf_fieldOf_20 rfl rfl ?_
      refine go_ldc2 (x := 7378429404699914851) X w_kl_Shelf_42 (by decide) d_Shelf_fieldOf_21 ?_
      refine go_lcmp X (by omega) (by omega) d_Shelf_fieldOf_24 ?_
      have hc1 := s_cmp_rng v 7378429404699914851
      refine go_if_ne (tgt := 31) X d_Shelf_fieldOf_25 rfl (by omega) (fun hq3 => ?_) (fun hq3 => ?_)
      · skip
        refine go_aload_n X d_Shelf_fieldOf_31 rfl rfl ?_
        refine go_aload_n X d_Shelf_fieldOf_32 rfl rfl ?_
        refine go_get (v := vl ((E j).1.2.2.1)) X f_Shelf_44 en.1 rfl d_Shelf_fieldOf_33 (congrArg (s_v .long) ec) ?_
        have hop4 := c_Shelf_find l D (sz := sz) hh (v := (E j).1.2.2.1) rlc
        rcases fx_rng (W := kE E) (n := n) (w := (E j).1.2.2.1) (by omega) with hf1b | ⟨hf1b, hf2b, hf3b⟩
        · skip
          rw [show (eq_ p (fx (kE E) n (E j).1.2.2.1)) = .null from if_neg (by rw [hf1b]; decide)] at hop4
          refine go_cVf (st2 := [.null]) (r := []) X k_Shelf_34 hop4 h1 rfl rfl (by omega) (Nat.le_of_ble_eq_true rfl) d_Shelf_fieldOf_36 (by omega) (by omega) rfl ?_
          refine go_astoreN (lv' := [(5, .null), (4, .null), (0, vr p), (1, vr (p + 2 + 17 * j)), (2, vl v)]) X d_Shelf_fieldOf_39 (by decide) rfl ?_
          refine go_aloadN X d_Shelf_fieldOf_41 rfl ?_
          refine go_ifnonnullN X d_Shelf_fieldOf_43 ?_
          refine go_null X d_Shelf_fieldOf_46 ?_
          refine go_goto (tgt := 56) X d_Shelf_fieldOf_47 rfl ?_
          refine go_aret X d_Shelf_fieldOf_56 rfl (Or.inl ⟨_, rfl⟩) (Or.inl rfl) (by omega) (by omega) ?_
          have gv0 : ¬ v = 0 := fun q => hq1 (by rw [q]; decide)
          have gf1 : fE E j v = -1 := hf1a
          have gx : ¬ (0 ≤ fE E j v ∨ v = xref) := fun q => q.elim (fun q => by rw [gf1] at q; exact absurd q (by decide)) (fun q => hq3 (by rw [q]; decide))
          have gfo : fo E n j v = (j, -1) := ((if_neg gv0).trans (if_neg gx)).trans (if_neg (by show ¬ 0 ≤ fx (kE E) n (E j).1.2.2.1; omega))
          exact ⟨by rw [gfo]; rfl, rfl, rfl, rfl⟩
        · skip
          rw [show (eq_ p (fx (kE E) n (E j).1.2.2.1)) = vr (p + 2 + 17 * cE E n j) from if_pos (by omega)] at hop4
          refine go_cVf (st2 := [vr (p + 2 + 17 * cE E n j)]) (r := []) X k_Shelf_34 hop4 h1 rfl rfl (by omega) (Nat.le_of_ble_eq_true rfl) d_Shelf_fieldOf_36 (by omega) (by omega) rfl ?_
          obtain ⟨er2, en2⟩ := hh.ent (i := cE E n j) (by show 0 ≤ fx (kE E) n (E j).1.2.2.1; omega) (by show fx (kE E) n (E j).1.2.2.1 < 9; omega)
          have nr2 := en2.2.2.2.2.2.2.2.2.2.2.1
          refine go_astore (lv' := [(5, vr (p + 2 + 17 * cE E n j)), (4, .null), (0, vr p), (1, vr (p + 2 + 17 * j)), (2, vl v)]) X d_Shelf_fieldOf_39 (by decide) rfl ?_
          refine go_aload X d_Shelf_fieldOf_41 rfl ?_
          refine go_ifnonnull (tgt := 50) X d_Shelf_fieldOf_43 rfl ?_
          refine go_aload X d_Shelf_fieldOf_50 rfl ?_
          refine go_lload_n X d_Shelf_fieldOf_52 rfl rfl ?_
          have hop5 := c_Entry_ownField l D (sz := sz) en2 (w := v) hv
          rcases fx_rng (W := (E (cE E n j)).2.1) (n := (E (cE E n j)).1.2.2.2) (w := v) (by omega) with hf1c | ⟨hf1c, hf2c, hf3c⟩
          · skip
            rw [show (fq (p + 2 + 17 * cE E n j + 2) (fx (E (cE E n j)).2.1 (E (cE E n j)).1.2.2.2 v)) = .null from if_neg (by rw [hf1c]; decide)] at hop5
            refine go_cVf (st2 := [.null]) (r := []) X k_Shelf_38 hop5 en2.1 rfl rfl (by omega) (Nat.le_of_ble_eq_true rfl) d_Shelf_fieldOf_53 (by omega) (by omega) rfl ?_
            refine go_aret X d_Shelf_fieldOf_56 rfl (Or.inl ⟨_, rfl⟩) (Or.inl rfl) (by omega) (by omega) ?_
            have gv0 : ¬ v = 0 := fun q => hq1 (by rw [q]; decide)
            have gf1 : fE E j v = -1 := hf1a
            have gx : ¬ (0 ≤ fE E j v ∨ v = xref) := fun q => q.elim (fun q => by rw [gf1] at q; exact absurd q (by decide)) (fun q => hq3 (by rw [q]; decide))
            have gfo : fo E n j v = (cE E n j, fE E (cE E n j) v) := ((if_neg gv0).trans (if_neg gx)).trans (if_pos hf1b)
            have gf2 : fE E (cE E n j) v = -1 := hf1c
            exact ⟨by rw [gfo]; rw [gf2]; rfl, rfl, rfl, rfl⟩
          · skip
            rw [show (fq (p + 2 + 17 * cE E n j + 2) (fx (E (cE E n j)).2.1 (E (cE E n j)).1.2.2.2 v)) = vr (p + 2 + 17 * cE E n j + 2 + 1 + 2 * fx (E (cE E n j)).2.1 (E (cE E n j)).1.2.2.2 v) from if_pos (by omega)] at hop5
            refine go_cVf (st2 := [vr (p + 2 + 17 * cE E n j + 2 + 1 + 2 * fx (E (cE E n j)).2.1 (E (cE E n j)).1.2.2.2 v)]) (r := []) X k_Shelf_38 hop5 en2.1 rfl rfl (by omega) (Nat.le_of_ble_eq_true rfl) d_Shelf_fieldOf_53 (by omega) (by omega) rfl ?_
            refine go_aret X d_Shelf_fieldOf_56 rfl (Or.inl ⟨_, rfl⟩) (Or.inr ⟨_, rfl⟩) (by omega) (by omega) ?_
            have gv0 : ¬ v = 0 := fun q => hq1 (by rw [q]; decide)
            have gf1 : fE E j v = -1 := hf1a
            have gx : ¬ (0 ≤ fE E j v ∨ v = xref) := fun q => q.elim (fun q => by rw [gf1] at q; exact absurd q (by decide)) (fun q => hq3 (by rw [q]; decide))
            have gfo : fo E n j v = (cE E n j, fE E (cE E n j) v) := ((if_neg gv0).trans (if_neg gx)).trans (if_pos hf1b)
            exact ⟨by rw [gfo]; exact congrArg some (if_pos hf1c).symm, rfl, rfl, rfl⟩
      · skip
        refine go_aloadN X d_Shelf_fieldOf_28 rfl ?_
        refine go_aret X d_Shelf_fieldOf_30 rfl (Or.inl ⟨_, rfl⟩) (Or.inl rfl) (by omega) (by omega) ?_
        have gv0 : ¬ v = 0 := fun q => hq1 (by rw [q]; decide)
        have gf1 : fE E j v = -1 := hf1a
        have gfo : fo E n j v = (j, fE E j v) := (if_neg gv0).trans (if_pos (Or.inr (s_cmp0 hq3)))
        exact ⟨by rw [gfo]; rw [gf1]; rfl, rfl, rfl, rfl⟩
    · skip
      rw [show (fq (p + 2 + 17 * j + 2) (fx (E j).2.1 (E j).1.2.2.2 v)) = vr (p + 2 + 17 * j + 2 + 1 + 2 * fx (E j).2.1 (E j).1.2.2.2 v) from if_pos (by omega)] at hop2
      refine go_cVf (st2 := [vr (p + 2 + 17 * j + 2 + 1 + 2 * fx (E j).2.1 (E j).1.2.2.2 v)]) (r := []) X k_Shelf_38 hop2 en.1 rfl rfl (by omega) (Nat.le_of_ble_eq_true rfl) d_Shelf_fieldOf_10 (by omega) (by omega) rfl ?_
      refine go_astore (lv' := [(4, vr (p + 2 + 17 * j + 2 + 1 + 2 * fx (E j).2.1 (E j).1.2.2.2 v)), (0, vr p), (1, vr (p + 2 + 17 * j)), (2, vl v)]) X d_Shelf_fieldOf_13 (by decide) rfl ?_
      refine go_aload X d_Shelf_fieldOf_15 rfl ?_
      refine go_ifnonnull (tgt := 28) X d_Shelf_fieldOf_17 rfl ?_
      refine go_aload X d_Shelf_fieldOf_28 rfl ?_
      refine go_aret X d_Shelf_fieldOf_30 rfl (Or.inl ⟨_, rfl⟩) (Or.inr ⟨_, rfl⟩) (by omega) (by omega) ?_
      have gv0 : ¬ v = 0 := fun q => hq1 (by rw [q]; decide)
      have gfo : fo E n j v = (j, fE E j v) := (if_neg gv0).trans (if_pos (Or.inl hf1a))
      exact ⟨by rw [gfo]; exact congrArg some (if_pos hf1a).symm, rfl, rfl, rfl⟩
  · skip
    refine go_null X d_Shelf_fieldOf_6 ?_
    refine go_aret X d_Shelf_fieldOf_7 rfl (Or.inl ⟨_, rfl⟩) (Or.inl rfl) (by omega) (by omega) ?_
    have gfo : fo E n j v = (j, -1) := if_pos (s_cmp0 hq1)
    exact ⟨by rw [gfo]; rfl, rfl, rfl, rfl⟩
set_option maxHeartbeats 4000000 in
set_option maxRecDepth 100000 in
theorem c_Citations_addToList (l : Launch) (D : va_G) {sh : s_S} {M : s_M} {sz p s w n m : Int} {W L : Int → Int} (h : civ sh M p s w n m W L) {ns : Int} {E : Int → sen} (hsh : shv sh M s w ns E) {a q : Int} (hq : 0 ≤ q ∧ q < 8) (ha : a = s + 2 + 17 * q) (hsp : s + 155 ≤ p) : Sp l D y_Citations_addToList prog_2_method_12_code 2 none 3 0 0 [vr p, vr a] sh M sz (fun v' sh' M' sz' => v' = none ∧ sh' = sh ∧ sz' = sz ∧ civ sh M' p s w n (if m < 8 then m + 1 else m) W (if m < 8 then rset L m q else L) ∧ shv sh M' s w ns (if m < 8 then eset E q (srt (E q)) else E) ∧ fr (fun z => (s ≤ z ∧ z < s + 155) ∨ (p ≤ z ∧ z ≤ p + 2)) M M') := by
  have h1 := h.1
  have h3 := h.2.2.1
  have h8 := h.2.2.2.2.2.2.2.1
  have h10 := h.2.2.2.2.2.2.2.2.2.1
  have h12 := h.2.2.2.2.2.2.2.2.2.2.2.1
  have h13 := h.2.2.2.2.2.2.2.2.2.2.2.2.1
  have hs0 := hsh.2.2.2.2.2.2.2.1
  obtain ⟨er, en⟩ := hsh.ent (i := q) (by omega) (by omega)
  clear er
  rw [← ha] at en
  have ek := en.2.2.2.2.2.2.2.2.2.1
  have et := en.2.2.2.2.2.2.2.2.2.2.2.2.2.2.2.2
  refine Sp.ofGo (own := "CiteForge$Citations") (nm := "addToList") (by decide) rfl rfl (Nat.le_of_ble_eq_true rfl) (lv := [(0, vr p), (1, vr a)]) rfl ?_
  intro g X
  refine go_aload_n X d_Citations_addToList_0 rfl rfl ?_
  refine go_get (v := vi m) X f_Citations_39 h1 rfl d_Citations_addToList_1 (congrArg (s_v .int) h10) ?_
  refine go_aload_n X d_Citations_addToList_4 rfl rfl ?_
  refine go_get (v := vr (p + 2)) X f_Citations_27 h1 rfl d_Citations_addToList_5 (s_varr h8 (by omega)) ?_
  refine go_alen X h3 (by simp) d_Citations_addToList_8 ?_
  refine go_icmp_ge (tgt := 39) X d_Citations_addToList_9 rfl (by omega) (by omega) (fun hq1 => ?_) (fun hq1 => ?_)
  · skip
    refine go_vret X d_Citations_addToList_39 rfl (by omega) (by omega) ?_
    have g1 : ¬ m < 8 := by omega
    rw [if_neg g1, if_neg g1, if_neg g1]
    exact ⟨rfl, rfl, rfl, h, hsh, fun z _ => rfl⟩
  · skip
    refine go_aload_n X d_Citations_addToList_12 rfl rfl ?_
    refine go_get (v := vr (a + 15)) X f_Citations_70 en.1 rfl d_Citations_addToList_13 (s_vref ek (by omega)) ?_
    refine go_cV (st2 := []) (r := []) X k_Citations_74 (k_Text_reset l D et) et.1.1 rfl rfl (by omega) (Nat.le_of_ble_eq_true rfl) d_Citations_addToList_16 (by omega) (by omega) (fun v sh' M2 sz' hp3 => ?_)
    obtain ⟨e4, e5, e6, tv7, fr8⟩ := hp3
    subst e4
    rw [e5, e6]
    show Go g 0 0 sh M2 sz 19 [(0, vr p), (1, vr a)] []
    have e9 : M2 p 4 = p + 2 := (congrFun (fr8 p (by omega)) _).trans h8
    have e10 : M2 p 5 = m := (congrFun (fr8 p (by omega)) _).trans h10
    have e11 : M2 a 6 = a + 15 := (congrFun (fr8 a (by omega)) _).trans ek
    have fr12 : fr (fun z => (s ≤ z ∧ z < s + 155) ∨ (p ≤ z ∧ z ≤ p + 2)) M M2 := fun z hz => by
      have hz1 : ¬ ((s ≤ z ∧ z < s + 155) ∨ (p ≤ z ∧ z ≤ p + 2)) := hz
      exact (fr8 z (by omega))
    obtain ⟨hMq, hMqe⟩ : ∃ Mq, Mq = M2 := ⟨_, rfl⟩
    have htq : tv sh hMq (a + 15) 60 [] := by rw [hMqe]; exact tv7
    have hfq : fr (fun z => z = a + 15 ∨ z = a + 16) M hMq := by rw [hMqe]; exact fun z hz => fr8 z (by have hz1 : ¬ (z = a + 15 ∨ z = a + 16) := hz; omega)
    rw [← hMqe]
    rw [← hMqe] at e9
    rw [← hMqe] at e10
    rw [← hMqe] at e11
    rw [← hMqe] at tv7
    rw [← hMqe] at fr12
    refine go_aload_n X d_Citations_addToList_19 rfl rfl ?_
    refine go_get (v := vr (p + 2)) X f_Citations_27 h1 rfl d_Citations_addToList_20 (s_varr e9 (by omega)) ?_
    refine go_aload_n X d_Citations_addToList_23 rfl rfl ?_
    refine go_get (v := vi m) X f_Citations_39 h1 rfl d_Citations_addToList_24 (congrArg (s_v .int) e10) ?_
    refine go_aload_n X d_Citations_addToList_27 rfl rfl ?_
    refine go_aast X h3 (by omega) (by omega) (cls1) en.1 d_Citations_addToList_28 ?_
    generalize hM14 : m_s hMq (p + 2) m a = M13
    have e15 : M13 p 4 = p + 2 := by rw [← hM14]; exact (m_s_n (fun q => absurd q.1 (of_ne1 (by decide)))).trans e9
    have e16 : M13 p 5 = m := by rw [← hM14]; exact (m_s_n (fun q => absurd q.1 (of_ne1 (by decide)))).trans e10
    have e17 : M13 a 6 = a + 15 := by rw [← hM14]; exact (m_s_n (by omega)).trans e11
    have e18 : M13 (p + 2) m = a := by rw [← hM14, m_s_s]
    have tv19 := tv7.kept (M' := M13) (by rw [← hM14]; exact m_s_a (by omega)) (by rw [← hM14]; exact m_s_a (by omega))
    have fr20 : fr (fun z => (s ≤ z ∧ z < s + 155) ∨ (p ≤ z ∧ z ≤ p + 2)) M M13 := fun z hz => by
      have hz1 : ¬ ((s ≤ z ∧ z < s + 155) ∨ (p ≤ z ∧ z ≤ p + 2)) := hz
      rw [← hM14]; exact (m_s_a (by omega)).trans (fr12 z hz)
    clear e10 e11 e9 fr12 tv7
    refine go_aload_n X d_Citations_addToList_29 rfl rfl ?_
    refine go_dup X d_Citations_addToList_30 rfl ?_
    refine go_get (v := vi m) X f_Citations_39 h1 rfl d_Citations_addToList_31 (congrArg (s_v .int) e16) ?_
    refine go_iconst (v := 1) X d_Citations_addToList_34 ?_
    refine go_iadd X d_Citations_addToList_35 ?_
    refine go_put (x := (m + 1)) (v := vi (m + 1)) X f_Citations_39 h1 rfl d_Citations_addToList_36 rfl rfl rfl ?_
    generalize hM22 : m_s M13 p 5 (m + 1) = M21
    have e23 : M21 p 4 = p + 2 := by rw [← hM22]; exact (m_s_n (fun q => absurd q.2 (by decide))).trans e15
    have e24 : M21 a 6 = a + 15 := by rw [← hM22]; exact (m_s_n (by omega)).trans e17
    have e25 : M21 (p + 2) m = a := by rw [← hM22]; exact (m_s_n (fun q => absurd q.1 (of_ne0 (by decide)))).trans e18
    have e26 : M21 p 5 = m + 1 := by rw [← hM22, m_s_s]
    have tv27 := tv19.kept (M' := M21) (by rw [← hM22]; exact m_s_a (by omega)) (by rw [← hM22]; exact m_s_a (by omega))
    have fr28 : fr (fun z => (s ≤ z ∧ z < s + 155) ∨ (p ≤ z ∧ z ≤ p + 2)) M M21 := fun z hz => by
      have hz1 : ¬ ((s ≤ z ∧ z < s + 155) ∨ (p ≤ z ∧ z ≤ p + 2)) := hz
      rw [← hM22]; exact (m_s_a (by omega)).trans (fr20 z hz)
    clear e15 e16 e17 e18 fr20 tv19
    refine go_vret X d_Citations_addToList_39 rfl (by omega) (by omega) ?_
    have g1 : m < 8 := by omega
    rw [if_pos g1, if_pos g1, if_pos g1]
    have c1 : civ sh M21 p s w n (m + 1) W (rset L m q) := h.push g1 hq (fun j hj => by rw [← hM22, m_s_n (fun e => hj e.2), ← hM14, m_s_n (by omega)]; exact congrFun (hfq p (by omega)) j) e26 (by rw [← hM22, m_s_a (by omega), ← hM14, m_s_a (by omega)]; exact hfq (p + 1) (by omega)) (fun i hi => by rw [← hM22, m_s_n (by omega), ← hM14, m_s_n (by omega)]; exact congrFun (hfq (p + 2) (by omega)) i) (by rw [← hM22, m_s_n (by omega), ← hM14, m_s_s, ha])
    have hlow : ∀ z, z < p → M21 z = hMq z := fun z hz => by rw [← hM22, m_s_a (by omega), ← hM14, m_s_a (by omega)]
    have c2 : shv sh M21 s w ns (eset E q (srt (E q))) := hsh.set (by omega) (by rw [← ha]; exact enx.srt en (htq.mv (fun z z1 z2 => ⟨rfl, hlow z (by omega)⟩)) (fun z z1 z2 => (hlow z (by omega)).trans (hfq z (by omega)))) (fun z z1 z2 z3 => (hlow z (by omega)).trans (hfq z (by omega)))
    exact ⟨rfl, rfl, rfl, c1, c2, fr28⟩
