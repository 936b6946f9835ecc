theorem ads_len {x n : Int} {t : List Int} (h0 : 0 ≤ n) (h : (t.length : Int) + n ≤ 320) : ((ads x n t).length : Int) = t.length + n := by
  have key : ∀ (m : Nat) (i : Int) (u : List Int), (u.length : Int) + m ≤ 320 → ((it (adst x) m i u).length : Int) = u.length + m := by
    intro m
    induction m with
    | zero => intro i u _; show (u.length : Int) = u.length + ((0 : Nat) : Int); omega
    | succ m ih =>
      intro i u hu
      have e : ((adst x i u).length : Int) = u.length + 1 := by
        unfold adst ta
        rw [if_pos (by omega), List.length_append]
        rfl
      show ((it (adst x) m (i + 1) (adst x i u)).length : Int) = _
      rw [ih (i + 1) (adst x i u) (by omega), e]
      omega
  have := key (n - 0).toNat 0 t (by omega)
  unfold ads
  omega
set_option maxHeartbeats 4000000 in
set_option maxRecDepth 100000 in
theorem c_Reader_addCharacters (l : Launch) (D : va_G) {sh : s_S} {M : s_M} {sz p s w n : Int} {t : List Int} {W : Int → Int} {Y : Int → List Int} {v : List Int} (h : rdv sh M p s w n t W Y v) {x q : Int} (hx : 0 ≤ x ∧ x < 18446744073709551616) (hq : 0 ≤ q ∧ q ≤ 8) : Sp l D y_Reader_addCharacters prog_8_method_4_code 5 (some .int) 3 0 0 [vr p, vl x, vi q] sh M sz (fun v' sh' M' sz' => v' = some (vi (ads x q t).length) ∧ sh' = sh ∧ sz' = sz ∧ rdv sh M' p s w n (ads x q t) W Y v ∧ fr (fun z => p ≤ z ∧ z ≤ p + 22) M M') := by
  have hh := h
  obtain ⟨h1, h2, h3, h4, h5, h6, h7, h8, h9, h10, h11, h12, h13, h14, h15, h16, h17, h18, h19, h20, h21⟩ := h
  have hln := h17.len
  refine Sp.ofGo (own := "CiteForge$Reader") (nm := "addCharacters") (by decide) rfl rfl (Nat.le_of_ble_eq_true rfl) (lv := [(0, vr p), (1, vl x), (3, vi q)]) rfl ?_
  intro g X
  refine go_iconst (v := 0) X d_Reader_addCharacters_0 ?_
  refine go_istore (lv' := [(4, vi 0), (0, vr p), (1, vl x), (3, vi q)]) X d_Reader_addCharacters_1 (by decide) rfl ?_
  have loop : ∀ (fuel : Nat) (i : Int) (u : List Int) (Mx : s_M), (0 ≤ i) → (i ≤ q) → (tv sh Mx (p + 1) 320 u) → (fr (fun z => z = p + 1 ∨ z = p + 2) M Mx) → (it (adst x) (q - i).toNat i u = ads x q t) → (q - i).toNat < fuel → Go g 0 0 sh Mx sz 3 [(0, vr p), (1, vl x), (3, vi q), (4, vi i)] [] := by
    intro fuel
    induction fuel with
    | zero => intro i u Mx hi hi2 hu hfr hp hm_loop; exact absurd hm_loop (Nat.not_lt_zero _)
    | succ fuel ih_loop =>
      intro i u Mx hi hi2 hu hfr hp hm_loop
      have g7 : Mx p 2 = p + 1 := (congrFun (hfr p (by omega)) _).trans h7
      have hul := hu.len
      refine go_iload X d_Reader_addCharacters_3 rfl ?_
      refine go_iload_n X d_Reader_addCharacters_5 rfl rfl ?_
      refine go_icmp_ge (tgt := 28) X d_Reader_addCharacters_6 rfl (by omega) (by omega) (fun hq1 => ?_) (fun hq1 => ?_)
      · skip
        refine go_aload_n X d_Reader_addCharacters_28 rfl rfl ?_
        refine go_get (v := vr (p + 1)) X f_Reader_24 h1 rfl d_Reader_addCharacters_29 (s_vref g7 (by omega)) ?_
        refine go_cVf (st2 := [vi (u.length : Int)]) (r := []) X k_Reader_50 (k_Text_size l D hu) hu.1.1 rfl rfl (by omega) (Nat.le_of_ble_eq_true rfl) d_Reader_addCharacters_32 (by omega) (by omega) rfl ?_
        refine go_iret X d_Reader_addCharacters_35 rfl ?_ (by omega) (by omega) ?_
        · rfl
        have e0 := it_fin (adst x) hp (by omega)
        have e1 : ads x q t = u := e0
        rw [e1]
        have g := hfr
        have gp : Mx p = M p := (g (p) (by omega))
        exact ⟨rfl, rfl, rfl, ⟨h1, h2, h3, h4, by rw [gp]; exact h5, by rw [gp]; exact h6, by rw [gp]; exact h7, by rw [gp]; exact h8, by rw [gp]; exact h9, by rw [gp]; exact h10, by rw [gp]; exact h11, h12, h13, h14, h15, h16, hu, by rw [g (p + 3) (by omega)]; exact h18, h19, h20.mv (fun z q1 q2 => ⟨rfl, g z (by omega)⟩), h21.mv (fun z q1 q2 => ⟨rfl, g z (by omega)⟩)⟩, fun z hz => g z (by have hz1 : ¬ (p ≤ z ∧ z ≤ p + 22) := hz; omega)⟩
      · skip
        refine go_aload_n X d_Reader_addCharacters_9 rfl rfl ?_
        refine go_get (v := vr (p + 1)) X f_Reader_24 h1 rfl d_Reader_addCharacters_10 (s_vref g7 (by omega)) ?_
        refine go_lload_n X d_Reader_addCharacters_13 rfl rfl ?_
        refine go_iload X d_Reader_addCharacters_14 rfl ?_
        refine go_cSf (st2 := [vi (by_ x i), vr (p + 1)]) (r := [vr (p + 1)]) X k_Reader_42 (c_byteOf l D (by omega) (by omega)) rfl rfl (by omega) (Nat.le_of_ble_eq_true rfl) d_Reader_addCharacters_16 (by omega) (by omega) rfl ?_
        have hb0 := by_r x i
        refine go_cV (st2 := []) (r := []) X k_Reader_54 (k_Text_add l D hu (by omega)) hu.1.1 rfl rfl (by omega) (Nat.le_of_ble_eq_true rfl) d_Reader_addCharacters_19 (by omega) (by omega) (fun v sh' M2 sz' hp3 => ?_)
        obtain ⟨e4, e5, e6, tv7, fr8⟩ := hp3
        subst e4
        rw [e5, e6]
        show Go g 0 0 sh M2 sz 22 [(0, vr p), (1, vl x), (3, vi q), (4, vi i)] []
        have e9 : M2 p 2 = p + 1 := (congrFun (fr8 p (by omega)) _).trans g7
        have fr10 : fr (fun z => z = p + 1 ∨ z = p + 2) M M2 := fun z hz => by
          have hz1 : ¬ (z = p + 1 ∨ z = p + 2) := hz
          exact (fr8 z (by omega)).trans (hfr z hz)
        clear fr8
        have hn := it_nxt (adst x) (s' := ta 320 u (by_ x i)) hp (by omega) rfl
        refine go_iinc (v := 1) (x := i) (lv' := [(4, vi (i + 1)), (0, vr p), (1, vl x), (3, vi q)]) X d_Reader_addCharacters_22 rfl (by decide) rfl ?_
        refine go_goto (tgt := 3) X d_Reader_addCharacters_25 rfl ?_
        refine go_lv (lv' := [(0, vr p), (1, vl x), (3, vi q), (4, vi (i + 1))]) X [1, 2, 3, 0] rfl ?_
        exact ih_loop (i + 1) (ta 320 u (by_ x i)) M2 (by omega) (by omega) tv7 fr10 hn (by omega)
  refine go_lv (lv' := [(0, vr p), (1, vl x), (3, vi q), (4, vi 0)]) X [1, 2, 3, 0] rfl ?_
  exact loop _ 0 t M (by omega) (by omega) h17 (fun z _ => rfl) rfl (Nat.lt_succ_self _)
set_option maxHeartbeats 4000000 in
set_option maxRecDepth 100000 in
theorem c_Reader_begin (l : Launch) (D : va_G) {sh : s_S} {M : s_M} {sz p s w n : Int} {t : List Int} {W : Int → Int} {Y : Int → List Int} {v : List Int} (h : rdv sh M p s w n t W Y v) {ns : Int} {E : Int → sen} (hsh0 : shv sh M s w ns E) (hsp : s + 155 ≤ p) : Sp l D y_Reader_begin prog_8_method_6_code 1 none 2 0 0 [vr p] sh M sz (fun v' sh' M' sz' => v' = none ∧ sh' = sh ∧ sz' = sz ∧ shv sh M' s w 0 E ∧ rdv sh M' p s w 0 t W Y v ∧ M' p 6 = 0 ∧ M' p 7 = 0 ∧ fr (fun z => z = s ∨ (p ≤ z ∧ z ≤ p + 22)) M M') := by
  have hh := h
  obtain ⟨h1, h2, h3, h4, h5, h6, h7, h8, h9, h10, h11, h12, h13, h14, h15, h16, h17, h18, h19, h20, h21⟩ := h
  have hln := h17.len
  refine Sp.ofGo (own := "CiteForge$Reader") (nm := "begin") (by decide) rfl rfl (Nat.le_of_ble_eq_true rfl) (lv := [(0, vr p)]) rfl ?_
  intro g X
  refine go_aload_n X d_Reader_begin_0 rfl rfl ?_
  refine go_get (v := vr s) X f_Reader_9 h1 rfl d_Reader_begin_1 (s_vref h5 (by omega)) ?_
  refine go_cV (st2 := []) (r := []) X k_Reader_61 (c_Shelf_dropAll l D hsh0) hsh0.1 rfl rfl (by omega) (Nat.le_of_ble_eq_true rfl) d_Reader_begin_4 (by omega) (by omega) (fun v' sh' M1 sz' hp => ?_)
  obtain ⟨e2, e3, e4, pd5, fr6⟩ := hp
  subst e2
  rw [e3, e4]
  show Go g 0 0 sh M1 sz 7 [(0, vr p)] []
  have e7 : M1 p 0 = s := (congrFun (fr6 p (by omega)) _).trans h5
  have e8 : M1 p 1 = w := (congrFun (fr6 p (by omega)) _).trans h6
  have e9 : M1 p 2 = p + 1 := (congrFun (fr6 p (by omega)) _).trans h7
  have e10 : M1 p 3 = p + 3 := (congrFun (fr6 p (by omega)) _).trans h8
  have e11 : M1 p 4 = p + 4 := (congrFun (fr6 p (by omega)) _).trans h9
  have e12 : M1 p 11 = p + 21 := (congrFun (fr6 p (by omega)) _).trans h10
  have e13 : M1 p 5 = n := (congrFun (fr6 p (by omega)) _).trans h11
  have tv14 := h17.kept (fr6 (p + 1) (by omega)) (fr6 (p + 1 + 1) (by omega))
  have tv15 := h21.kept (fr6 (p + 21) (by omega)) (fr6 (p + 21 + 1) (by omega))
  have fr16 : fr (fun z => z = s ∨ (p ≤ z ∧ z ≤ p + 22)) M M1 := fun z hz => by
    have hz1 : ¬ (z = s ∨ (p ≤ z ∧ z ≤ p + 22)) := hz
    exact (fr6 z (by omega))
  have rw17 : M1 (p + 3) = W := (fr6 (p + 3) (by omega)).trans h18
  have tx18 : txs sh M1 (p + 4) 8 Y := h20.kept (fun z hz1 hz2 => fr6 z (by omega))
  clear fr6
  have hshk := pd5
  refine go_aload_n X d_Reader_begin_7 rfl rfl ?_
  refine go_iconst (v := 0) X d_Reader_begin_8 ?_
  refine go_put (x := 0) (v := vi 0) X f_Reader_66 h1 rfl d_Reader_begin_9 rfl rfl rfl ?_
  generalize hM20 : m_s M1 p 5 0 = M19
  have e21 : M19 p 0 = s := by rw [← hM20]; exact (m_s_n (fun q => absurd q.2 (by decide))).trans e7
  have e22 : M19 p 1 = w := by rw [← hM20]; exact (m_s_n (fun q => absurd q.2 (by decide))).trans e8
  have e23 : M19 p 2 = p + 1 := by rw [← hM20]; exact (m_s_n (fun q => absurd q.2 (by decide))).trans e9
  have e24 : M19 p 3 = p + 3 := by rw [← hM20]; exact (m_s_n (fun q => absurd q.2 (by decide))).trans e10
  have e25 : M19 p 4 = p + 4 := by rw [← hM20]; exact (m_s_n (fun q => absurd q.2 (by decide))).trans e11
  have e26 : M19 p 11 = p + 21 := by rw [← hM20]; exact (m_s_n (fun q => absurd q.2 (by decide))).trans e12
  have e27 : M19 p 5 = 0 := by rw [← hM20, m_s_s]
  have tv28 := tv14.kept (M' := M19) (by rw [← hM20]; exact m_s_a (by omega)) (by rw [← hM20]; exact m_s_a (by omega))
  have tv29 := tv15.kept (M' := M19) (by rw [← hM20]; exact m_s_a (by omega)) (by rw [← hM20]; exact m_s_a (by omega))
  have fr30 : fr (fun z => z = s ∨ (p ≤ z ∧ z ≤ p + 22)) M M19 := fun z hz => by
    have hz1 : ¬ (z = s ∨ (p ≤ z ∧ z ≤ p + 22)) := hz
    rw [← hM20]; exact (m_s_a (by omega)).trans (fr16 z hz)
  have rw31 : M19 (p + 3) = W := by rw [← hM20]; exact (m_s_a (of_ne0 (by decide))).trans rw17
  have tx32 : txs sh M19 (p + 4) 8 Y := tx18.kept (fun z hz1 hz2 => by rw [← hM20]; exact m_s_a (of_gt hz1 (by decide)))
  clear e10 e11 e12 e13 e7 e8 e9 fr16 rw17 tv14 tv15 tx18
  refine go_aload_n X d_Reader_begin_12 rfl rfl ?_
  refine go_iconst (v := 0) X d_Reader_begin_13 ?_
  refine go_put (x := 0) (v := vi 0) X f_Reader_70 h1 rfl d_Reader_begin_14 rfl rfl rfl ?_
  generalize hM34 : m_s M19 p 6 0 = M33
  have e35 : M33 p 0 = s := by rw [← hM34]; exact (m_s_n (fun q => absurd q.2 (by decide))).trans e21
  have e36 : M33 p 1 = w := by rw [← hM34]; exact (m_s_n (fun q => absurd q.2 (by decide))).trans e22
  have e37 : M33 p 2 = p + 1 := by rw [← hM34]; exact (m_s_n (fun q => absurd q.2 (by decide))).trans e23
  have e38 : M33 p 3 = p + 3 := by rw [← hM34]; exact (m_s_n (fun q => absurd q.2 (by decide))).trans e24
  have e39 : M33 p 4 = p + 4 := by rw [← hM34]; exact (m_s_n (fun q => absurd q.2 (by decide))).trans e25
  have e40 : M33 p 11 = p + 21 := by rw [← hM34]; exact (m_s_n (fun q => absurd q.2 (by decide))).trans e26
  have e41 : M33 p 5 = 0 := by rw [← hM34]; exact (m_s_n (fun q => absurd q.2 (by decide))).trans e27
  have e42 : M33 p 6 = 0 := by rw [← hM34, m_s_s]
  have tv43 := tv28.kept (M' := M33) (by rw [← hM34]; exact m_s_a (by omega)) (by rw [← hM34]; exact m_s_a (by omega))
  have tv44 := tv29.kept (M' := M33) (by rw [← hM34]; exact m_s_a (by omega)) (by rw [← hM34]; exact m_s_a (by omega))
  have fr45 : fr (fun z => z = s ∨ (p ≤ z ∧ z ≤ p + 22)) M M33 := fun z hz => by
    have hz1 : ¬ (z = s ∨ (p ≤ z ∧ z ≤ p + 22)) := hz
    rw [← hM34]; exact (m_s_a (by omega)).trans (fr30 z hz)
  have rw46 : M33 (p + 3) = W := by rw [← hM34]; exact (m_s_a (of_ne0 (by decide))).trans rw31
  have tx47 : txs sh M33 (p + 4) 8 Y := tx32.kept (fun z hz1 hz2 => by rw [← hM34]; exact m_s_a (of_gt hz1 (by decide)))
  clear e21 e22 e23 e24 e25 e26 e27 fr30 rw31 tv28 tv29 tx32
  refine go_aload_n X d_Reader_begin_17 rfl rfl ?_
  refine go_iconst (v := 0) X d_Reader_begin_18 ?_
  refine go_put (x := 0) (v := vi 0) X f_Reader_73 h1 rfl d_Reader_begin_19 rfl rfl rfl ?_
  generalize hM49 : m_s M33 p 7 0 = M48
  have e50 : M48 p 0 = s := by rw [← hM49]; exact (m_s_n (fun q => absurd q.2 (by decide))).trans e35
  have e51 : M48 p 1 = w := by rw [← hM49]; exact (m_s_n (fun q => absurd q.2 (by decide))).trans e36
  have e52 : M48 p 2 = p + 1 := by rw [← hM49]; exact (m_s_n (fun q => absurd q.2 (by decide))).trans e37
  have e53 : M48 p 3 = p + 3 := by rw [← hM49]; exact (m_s_n (fun q => absurd q.2 (by decide))).trans e38
  have e54 : M48 p 4 = p + 4 := by rw [← hM49]; exact (m_s_n (fun q => absurd q.2 (by decide))).trans e39
  have e55 : M48 p 11 = p + 21 := by rw [← hM49]; exact (m_s_n (fun q => absurd q.2 (by decide))).trans e40
  have e56 : M48 p 5 = 0 := by rw [← hM49]; exact (m_s_n (fun q => absurd q.2 (by decide))).trans e41
  have e57 : M48 p 6 = 0 := by rw [← hM49]; exact (m_s_n (fun q => absurd q.2 (by decide))).trans e42
  have e58 : M48 p 7 = 0 := by rw [← hM49, m_s_s]
  have tv59 := tv43.kept (M' := M48) (by rw [← hM49]; exact m_s_a (by omega)) (by rw [← hM49]; exact m_s_a (by omega))
  have tv60 := tv44.kept (M' := M48) (by rw [← hM49]; exact m_s_a (by omega)) (by rw [← hM49]; exact m_s_a (by omega))
  have fr61 : fr (fun z => z = s ∨ (p ≤ z ∧ z ≤ p + 22)) M M48 := fun z hz => by
    have hz1 : ¬ (z = s ∨ (p ≤ z ∧ z ≤ p + 22)) := hz
    rw [← hM49]; exact (m_s_a (by omega)).trans (fr45 z hz)
  have rw62 : M48 (p + 3) = W := by rw [← hM49]; exact (m_s_a (of_ne0 (by decide))).trans rw46
  have tx63 : txs sh M48 (p + 4) 8 Y := tx47.kept (fun z hz1 hz2 => by rw [← hM49]; exact m_s_a (of_gt hz1 (by decide)))
  clear e35 e36 e37 e38 e39 e40 e41 e42 fr45 rw46 tv43 tv44 tx47
  refine go_vret X d_Reader_begin_22 rfl (by omega) (by omega) ?_
  have g5 := hshk.mv (sh' := sh) (M' := M48) (fun z q1 q2 => ⟨rfl, by rw [← hM49, m_s_a (by omega), ← hM34, m_s_a (by omega), ← hM20, m_s_a (by omega)]⟩) rfl
  exact ⟨rfl, rfl, rfl, g5, ⟨h1, h2, h3, h4, e50, e51, e52, e53, e54, e55, e56, (by omega), h13, h14, h15, h16, tv59, rw62, h19, tx63, tv60⟩, e57, e58, fr61⟩
set_option maxHeartbeats 4000000 in
set_option maxRecDepth 100000 in
theorem c_Machine_isFunction (l : Launch) (D : va_G) {sh : s_S} {M : s_M} {sz c : Int} (hc : -2147483648 ≤ c ∧ c < 2147483648) : Sp l D y_Machine_isFunction prog_5_method_2_code 1 (some .boolean) 1 0 0 [vi c] sh M sz (pF (some (vi (s_b (decide (0 ≤ c ∧ c < 6))))) sh M sz) := by
  refine Sp.ofGo (own := "CiteForge$Machine") (nm := "isFunction") (by decide) rfl rfl (Nat.le_of_ble_eq_true rfl) (lv := [(0, vi c)]) rfl ?_
  intro g X
  refine go_iload_n X d_Machine_isFunction_0 rfl rfl ?_
  refine go_if_lt (tgt := 14) X d_Machine_isFunction_1 rfl (by omega) (fun hq1 => ?_) (fun hq1 => ?_)
  · skip
    refine go_iconst (v := 0) X d_Machine_isFunction_14 ?_
    refine go_iret X d_Machine_isFunction_15 rfl ?_ (by omega) (by omega) ?_
    · rfl
    · refine ⟨?_, rfl, rfl, rfl⟩
      have hb : decide (0 ≤ c ∧ c < 6) = false := by simp only [decide_eq_true_eq, decide_eq_false_iff_not]; omega
      rw [hb]; rfl
  · skip
    refine go_iload_n X d_Machine_isFunction_4 rfl rfl ?_
    refine go_bipush (v := 6) X d_Machine_isFunction_5 (by decide) ?_
    refine go_icmp_ge (tgt := 14) X d_Machine_isFunction_7 rfl (by omega) (by omega) (fun hq2 => ?_) (fun hq2 => ?_)
    · skip
      refine go_iconst (v := 0) X d_Machine_isFunction_14 ?_
      refine go_iret X d_Machine_isFunction_15 rfl ?_ (by omega) (by omega) ?_
      · rfl
      · refine ⟨?_, rfl, rfl, rfl⟩
        have hb : decide (0 ≤ c ∧ c < 6) = false := by simp only [decide_eq_true_eq, decide_eq_false_iff_not]; omega
        rw [hb]; rfl
    · skip
      refine go_iconst (v := 1) X d_Machine_isFunction_10 ?_
      refine go_goto (tgt := 15) X d_Machine_isFunction_11 rfl ?_
      refine go_iret X d_Machine_isFunction_15 rfl ?_ (by omega) (by omega) ?_
      · rfl
      · refine ⟨?_, rfl, rfl, rfl⟩
        have hb : decide (0 ≤ c ∧ c < 6) = true := by simp only [decide_eq_true_eq, decide_eq_false_iff_not]; omega
        rw [hb]; rfl
set_option maxHeartbeats 4000000 in
set_option maxRecDepth 100000 in
theorem c_Machine_isOperation (l : Launch) (D : va_G) {sh : s_S} {M : s_M} {sz c : Int} (hc : -2147483648 ≤ c ∧ c < 2147483648) : Sp l D y_Machine_isOperation prog_5_method_3_code 1 (some .boolean) 1 0 0 [vi c] sh M sz (pF (some (vi (s_b (decide (0 ≤ c ∧ c < 30))))) sh M sz) := by
  refine Sp.ofGo (own := "CiteForge$Machine") (nm := "isOperation") (by decide) rfl rfl (Nat.le_of_ble_eq_true rfl) (lv := [(0, vi c)]) rfl ?_
  intro g X
  refine go_iload_n X d_Machine_isOperation_0 rfl rfl ?_
  refine go_if_lt (tgt := 14) X d_Machine_isOperation_1 rfl (by omega) (fun hq1 => ?_) (fun hq1 => ?_)
  · skip
    refine go_iconst (v := 0) X d_Machine_isOperation_14 ?_
    refine go_iret X d_Machine_isOperation_15 rfl ?_ (by omega) (by omega) ?_
    · rfl
    · refine ⟨?_, rfl, rfl, rfl⟩
      have hb : decide (0 ≤ c ∧ c < 30) = false := by simp only [decide_eq_true_eq, decide_eq_false_iff_not]; omega
      rw [hb]; rfl
  · skip
    refine go_iload_n X d_Machine_isOperation_4 rfl rfl ?_
    refine go_bipush (v := 30) X d_Machine_isOperation_5 (by decide) ?_
    refine go_icmp_ge (tgt := 14) X d_Machine_isOperation_7 rfl (by omega) (by omega) (fun hq2 => ?_) (fun hq2 => ?_)
    · skip
      refine go_iconst (v := 0) X d_Machine_isOperation_14 ?_
      refine go_iret X d_Machine_isOperation_15 rfl ?_ (by omega) (by omega) ?_
      · rfl
      · refine ⟨?_, rfl, rfl, rfl⟩
        have hb : decide (0 ≤ c ∧ c < 30) = false := by simp only [decide_eq_true_eq, decide_eq_false_iff_not]; omega
        rw [hb]; rfl
    · skip
      refine go_iconst (v := 1) X d_Machine_isOperation_10 ?_
      refine go_goto (tgt := 15) X d_Machine_isOperation_11 rfl ?_
      refine go_iret X d_Machine_isOperation_15 rfl ?_ (by omega) (by omega) ?_
      · rfl
      · refine ⟨?_, rfl, rfl, rfl⟩
        have hb : decide (0 ≤ c ∧ c < 30) = true := by simp only [decide_eq_true_eq, decide_eq_false_iff_not]; omega
        rw [hb]; rfl
set_option maxHeartbeats 4000000 in
set_option maxRecDepth 100000 in
theorem c_Machine_isFull (l : Launch) (D : va_G) {sh : s_S} {M : s_M} {sz p s c k g_ w : Int} {O Q Z G : Int → Int} (h : mcv sh M p s c k g_ w O Q Z G) {f : Int} (hf : 0 ≤ f ∧ f < 6) (hZ : 0 ≤ Z f ∧ Z f ≤ 24) : Sp l D y_Machine_isFull prog_5_method_4_code 2 (some .boolean) 1 0 0 [vr p, vi f] sh M sz (pF (some (vi (s_b (decide (24 ≤ Z f))))) sh M sz) := by
  have hh := h
  obtain ⟨h1, ⟨a1, a2, a3, a4⟩, ⟨b1, b2, b3, b4, b5⟩, ⟨c1, c2, c3, c4, c5, c6, c7, c8, c9, c10⟩, h5, ⟨d1, d2, d3, d4⟩, h7⟩ := h
  refine Sp.ofGo (own := "CiteForge$Machine") (nm := "isFull") (by decide) rfl rfl (Nat.le_of_ble_eq_true rfl) (lv := [(0, vr p), (1, vi f)]) rfl ?_
  intro g X
  refine go_aload_n X d_Machine_isFull_0 rfl rfl ?_
  refine go_get (v := vr (p + 8)) X f_Machine_45 h1 rfl d_Machine_isFull_1 (s_varr c4 (by omega)) ?_
  refine go_iload_n X d_Machine_isFull_4 rfl rfl ?_
  refine go_iald X a3 (by omega) (by omega) d_Machine_isFull_5 ?_
  refine go_top (v' := vi (Z f)) X (by rw [d3]) ?_
  refine go_bipush (v := 24) X d_Machine_isFull_6 (by decide) ?_
  refine go_icmp_lt (tgt := 15) X d_Machine_isFull_8 rfl (by omega) (by omega) (fun hq1 => ?_) (fun hq1 => ?_)
  · skip
    refine go_iconst (v := 0) X d_Machine_isFull_15 ?_
    refine go_iret X d_Machine_isFull_16 rfl ?_ (by omega) (by omega) ?_
    · rfl
    · refine ⟨?_, rfl, rfl, rfl⟩
      have hb : decide (24 ≤ Z f) = false := by simp only [decide_eq_true_eq, decide_eq_false_iff_not]; omega
      rw [hb]; rfl
  · skip
    refine go_iconst (v := 1) X d_Machine_isFull_11 ?_
    refine go_goto (tgt := 16) X d_Machine_isFull_12 rfl ?_
    refine go_iret X d_Machine_isFull_16 rfl ?_ (by omega) (by omega) ?_
    · rfl
    · refine ⟨?_, rfl, rfl, rfl⟩
      have hb : decide (24 ≤ Z f) = true := by simp only [decide_eq_true_eq, decide_eq_false_iff_not]; omega
      rw [hb]; rfl
set_option maxHeartbeats 4000000 in
set_option maxRecDepth 100000 in
theorem c_Machine_addOperation (l : Launch) (D : va_G) {sh : s_S} {M : s_M} {sz p s c k g_ w : Int} {O Q Z G : Int → Int} (h : mcv sh M p s c k g_ w O Q Z G) {f : Int} (hf : 0 ≤ f ∧ f < 6) (hZ : 0 ≤ Z f ∧ Z f ≤ 24) (hZ2 : Z f < 24) {q v : Int} (hq : 0 ≤ q ∧ q < 30) (hv : rL v) : Sp l D y_Machine_addOperation prog_5_method_5_code 6 (some .int) 2 0 0 [vr p, vi f, vi q, vl v] sh M sz (fun v' sh' M' sz' => v' = some (vi (Z f + 1)) ∧ sh' = sh ∧ sz' = sz ∧ mcv sh M' p s c k g_ w (rset O (f * 24 + Z f) q) (rset Q (f * 24 + Z f) (if 13 ≤ q then max v 0 else v)) (inc Z f) G ∧ fr (fun z => z = p ∨ (p + 6 ≤ z ∧ z ≤ p + 9)) M M') := by
  have hh := h
  obtain ⟨h1, ⟨a1, a2, a3, a4⟩, ⟨b1, b2, b3, b4, b5⟩, ⟨c1, c2, c3, c4, c5, c6, c7, c8, c9, c10⟩, h5, ⟨d1, d2, d3, d4⟩, h7⟩ := h
  refine Sp.ofGo (own := "CiteForge$Machine") (nm := "addOperation") (by decide) rfl rfl (Nat.le_of_ble_eq_true rfl) (lv := [(0, vr p), (1, vi f), (2, vi q), (3, vl v)]) rfl ?_
  intro g X
  refine go_iload_n X d_Machine_addOperation_0 rfl rfl ?_
  refine go_bipush (v := 24) X d_Machine_addOperation_1 (by decide) ?_
  refine go_imul X d_Machine_addOperation_3 ?_
  refine go_aload_n X d_Machine_addOperation_4 rfl rfl ?_
  refine go_get (v := vr (p + 8)) X f_Machine_45 h1 rfl d_Machine_addOperation_5 (s_varr c4 (by omega)) ?_
  refine go_iload_n X d_Machine_addOperation_8 rfl rfl ?_
  refine go_iald X a3 (by omega) (by omega) d_Machine_addOperation_9 ?_
  refine go_top (v' := vi (Z f)) X (by rw [d3]) ?_
  refine go_iadd X d_Machine_addOperation_10 ?_
  refine go_istore (lv' := [(5, vi ((f * 24) + (Z f))), (0, vr p), (1, vi f), (2, vi q), (3, vl v)]) X d_Machine_addOperation_11 (by decide) rfl ?_
  refine go_aload_n X d_Machine_addOperation_13 rfl rfl ?_
  refine go_get (v := vr (p + 6)) X f_Machine_38 h1 rfl d_Machine_addOperation_14 (s_varr c2 (by omega)) ?_
  refine go_iload X d_Machine_addOperation_17 rfl ?_
  refine go_iload_n X d_Machine_addOperation_19 rfl rfl ?_
  refine go_iast X a1 (by omega) (by omega) d_Machine_addOperation_20 ?_
  generalize hM2 : m_s M (p + 6) ((f * 24) + (Z f)) q = M1
  have e3 : M1 p 0 = s := by rw [← hM2]; exact (m_s_n (fun q => absurd q.1 (of_ne1 (by decide)))).trans b1
  have e4 : M1 p 1 = c := by rw [← hM2]; exact (m_s_n (fun q => absurd q.1 (of_ne1 (by decide)))).trans b2
  have e5 : M1 p 2 = k := by rw [← hM2]; exact (m_s_n (fun q => absurd q.1 (of_ne1 (by decide)))).trans b3
  have e6 : M1 p 3 = g_ := by rw [← hM2]; exact (m_s_n (fun q => absurd q.1 (of_ne1 (by decide)))).trans b4
  have e7 : M1 p 4 = w := by rw [← hM2]; exact (m_s_n (fun q => absurd q.1 (of_ne1 (by decide)))).trans b5
  have e8 : M1 p 5 = p + 1 := by rw [← hM2]; exact (m_s_n (fun q => absurd q.1 (of_ne1 (by decide)))).trans c1
  have e9 : M1 p 6 = p + 6 := by rw [← hM2]; exact (m_s_n (fun q => absurd q.1 (of_ne1 (by decide)))).trans c2
  have e10 : M1 p 7 = p + 7 := by rw [← hM2]; exact (m_s_n (fun q => absurd q.1 (of_ne1 (by decide)))).trans c3
  have e11 : M1 p 8 = p + 8 := by rw [← hM2]; exact (m_s_n (fun q => absurd q.1 (of_ne1 (by decide)))).trans c4
  have e12 : M1 p 9 = p + 9 := by rw [← hM2]; exact (m_s_n (fun q => absurd q.1 (of_ne1 (by decide)))).trans c5
  have e13 : M1 p 10 = p + 10 := by rw [← hM2]; exact (m_s_n (fun q => absurd q.1 (of_ne1 (by decide)))).trans c6
  have e14 : M1 p 11 = p + 12 := by rw [← hM2]; exact (m_s_n (fun q => absurd q.1 (of_ne1 (by decide)))).trans c7
  have e15 : M1 p 12 = p + 14 := by rw [← hM2]; exact (m_s_n (fun q => absurd q.1 (of_ne1 (by decide)))).trans c8
  have e16 : M1 p 13 = p + 16 := by rw [← hM2]; exact (m_s_n (fun q => absurd q.1 (of_ne1 (by decide)))).trans c9
  have e17 : M1 p 14 = p + 19 := by rw [← hM2]; exact (m_s_n (fun q => absurd q.1 (of_ne1 (by decide)))).trans c10
  have e18 : M1 (p + 6) ((f * 24) + (Z f)) = q := by rw [← hM2, m_s_s]
  have fr19 : fr (fun z => z = p ∨ (p + 6 ≤ z ∧ z ≤ p + 9)) M M1 := fun z hz => by
    have hz1 : ¬ (z = p ∨ (p + 6 ≤ z ∧ z ≤ p + 9)) := hz
    rw [← hM2]; exact (m_s_a (by omega))
  have rw20 : M1 (p + 6) = rset O ((f * 24) + (Z f)) q := by rw [← hM2]; exact row_set d1
  have rw21 : M1 (p + 7) = Q := by rw [← hM2]; exact (m_s_a (of_ne (by decide))).trans d2
  have rw22 : M1 (p + 8) = Z := by rw [← hM2]; exact (m_s_a (of_ne (by decide))).trans d3
  have rw23 : M1 (p + 9) = G := by rw [← hM2]; exact (m_s_a (of_ne (by decide))).trans d4
  refine go_aload_n X d_Machine_addOperation_21 rfl rfl ?_
  refine go_get (v := vr (p + 7)) X f_Machine_41 h1 rfl d_Machine_addOperation_22 (s_varr e10 (by omega)) ?_
  refine go_iload X d_Machine_addOperation_25 rfl ?_
  refine go_iload_n X d_Machine_addOperation_27 rfl rfl ?_
  refine go_bipush (v := 13) X d_Machine_addOperation_28 (by decide) ?_
  refine go_icmp_lt (tgt := 41) X d_Machine_addOperation_30 rfl (by omega) (by omega) (fun hq24 => ?_) (fun hq24 => ?_)
  · skip
    refine go_lload_n X d_Machine_addOperation_41 rfl rfl ?_
    refine go_last X a2 (by omega) (by omega) d_Machine_addOperation_42 ?_
    generalize hM26 : m_s M1 (p + 7) ((f * 24) + (Z f)) v = M25
    have e27 : M25 p 0 = s := by rw [← hM26]; exact (m_s_n (fun q => absurd q.1 (of_ne1 (by decide)))).trans e3
    have e28 : M25 p 1 = c := by rw [← hM26]; exact (m_s_n (fun q => absurd q.1 (of_ne1 (by decide)))).trans e4
    have e29 : M25 p 2 = k := by rw [← hM26]; exact (m_s_n (fun q => absurd q.1 (of_ne1 (by decide)))).trans e5
    have e30 : M25 p 3 = g_ := by rw [← hM26]; exact (m_s_n (fun q => absurd q.1 (of_ne1 (by decide)))).trans e6
    have e31 : M25 p 4 = w := by rw [← hM26]; exact (m_s_n (fun q => absurd q.1 (of_ne1 (by decide)))).trans e7
    have e32 : M25 p 5 = p + 1 := by rw [← hM26]; exact (m_s_n (fun q => absurd q.1 (of_ne1 (by decide)))).trans e8
    have e33 : M25 p 6 = p + 6 := by rw [← hM26]; exact (m_s_n (fun q => absurd q.1 (of_ne1 (by decide)))).trans e9
    have e34 : M25 p 7 = p + 7 := by rw [← hM26]; exact (m_s_n (fun q => absurd q.1 (of_ne1 (by decide)))).trans e10
    have e35 : M25 p 8 = p + 8 := by rw [← hM26]; exact (m_s_n (fun q => absurd q.1 (of_ne1 (by decide)))).trans e11
    have e36 : M25 p 9 = p + 9 := by rw [← hM26]; exact (m_s_n (fun q => absurd q.1 (of_ne1 (by decide)))).trans e12
    have e37 : M25 p 10 = p + 10 := by rw [← hM26]; exact (m_s_n (fun q => absurd q.1 (of_ne1 (by decide)))).trans e13
    have e38 : M25 p 11 = p + 12 := by rw [← hM26]; exact (m_s_n (fun q => absurd q.1 (of_ne1 (by decide)))).trans e14
    have e39 : M25 p 12 = p + 14 := by rw [← hM26]; exact (m_s_n (fun q => absurd q.1 (of_ne1 (by decide)))).trans e15
    have e40 : M25 p 13 = p + 16 := by rw [← hM26]; exact (m_s_n (fun q => absurd q.1 (of_ne1 (by decide)))).trans e16
    have e41 : M25 p 14 = p + 19 := by rw [← hM26]; exact (m_s_n (fun q => absurd q.1 (of_ne1 (by decide)))).trans e17
    have e42 : M25 (p + 7) ((f * 24) + (Z f)) = v := by rw [← hM26, m_s_s]
    have fr43 : fr (fun z => z = p ∨ (p + 6 ≤ z ∧ z ≤ p + 9)) M M25 := fun z hz => by
      have hz1 : ¬ (z = p ∨ (p + 6 ≤ z ∧ z ≤ p + 9)) := hz
      rw [← hM26]; exact (m_s_a (by omega)).trans (fr19 z hz)
    have rw44 : M25 (p + 6) = rset O ((f * 24) + (Z f)) q := by rw [← hM26]; exact (m_s_a (of_ne (by decide))).trans rw20
    have rw45 : M25 (p + 7) = rset Q ((f * 24) + (Z f)) v := by rw [← hM26]; exact row_set rw21
    have rw46 : M25 (p + 8) = Z := by rw [← hM26]; exact (m_s_a (of_ne (by decide))).trans rw22
    have rw47 : M25 (p + 9) = G := by rw [← hM26]; exact (m_s_a (of_ne (by decide))).trans rw23
    clear e10 e11 e12 e13 e14 e15 e16 e17 e3 e4 e5 e6 e7 e8 e9 fr19 rw20 rw21 rw22 rw23
    refine go_aload_n X d_Machine_addOperation_43 rfl rfl ?_
    refine go_get (v := vr (p + 8)) X f_Machine_45 h1 rfl d_Machine_addOperation_44 (s_varr e35 (by omega)) ?_
    refine go_iload_n X d_Machine_addOperation_47 rfl rfl ?_
    refine go_dup2 X d_Machine_addOperation_48 rfl rfl ?_
    refine go_iald X a3 (by omega) (by omega) d_Machine_addOperation_49 ?_
    refine go_top (v' := vi (Z f)) X (by rw [rw46]) ?_
    refine go_iconst (v := 1) X d_Machine_addOperation_50 ?_
    refine go_iadd X d_Machine_addOperation_51 ?_
    refine go_iast X a3 (by omega) (by omega) d_Machine_addOperation_52 ?_
    generalize hM49 : m_s M25 (p + 8) f ((Z f) + 1) = M48
    have e50 : M48 p 0 = s := by rw [← hM49]; exact (m_s_n (fun q => absurd q.1 (of_ne1 (by decide)))).trans e27
    have e51 : M48 p 1 = c := by rw [← hM49]; exact (m_s_n (fun q => absurd q.1 (of_ne1 (by decide)))).trans e28
    have e52 : M48 p 2 = k := by rw [← hM49]; exact (m_s_n (fun q => absurd q.1 (of_ne1 (by decide)))).trans e29
    have e53 : M48 p 3 = g_ := by rw [← hM49]; exact (m_s_n (fun q => absurd q.1 (of_ne1 (by decide)))).trans e30
    have e54 : M48 p 4 = w := by rw [← hM49]; exact (m_s_n (fun q => absurd q.1 (of_ne1 (by decide)))).trans e31
    have e55 : M48 p 5 = p + 1 := by rw [← hM49]; exact (m_s_n (fun q => absurd q.1 (of_ne1 (by decide)))).trans e32
    have e56 : M48 p 6 = p + 6 := by rw [← hM49]; exact (m_s_n (fun q => absurd q.1 (of_ne1 (by decide)))).trans e33
    have e57 : M48 p 7 = p + 7 := by rw [← hM49]; exact (m_s_n (fun q => absurd q.1 (of_ne1 (by decide)))).trans e34
    have e58 : M48 p 8 = p + 8 := by rw [← hM49]; exact (m_s_n (fun q => absurd q.1 (of_ne1 (by decide)))).trans e35
    have e59 : M48 p 9 = p + 9 := by rw [← hM49]; exact (m_s_n (fun q => absurd q.1 (of_ne1 (by decide)))).trans e36
    have e60 : M48 p 10 = p + 10 := by rw [← hM49]; exact (m_s_n (fun q => absurd q.1 (of_ne1 (by decide)))).trans e37
    have e61 : M48 p 11 = p + 12 := by rw [← hM49]; exact (m_s_n (fun q => absurd q.1 (of_ne1 (by decide)))).trans e38
    have e62 : M48 p 12 = p + 14 := by rw [← hM49]; exact (m_s_n (fun q => absurd q.1 (of_ne1 (by decide)))).trans e39
    have e63 : M48 p 13 = p + 16 := by rw [← hM49]; exact (m_s_n (fun q => absurd q.1 (of_ne1 (by decide)))).trans e40
    have e64 : M48 p 14 = p + 19 := by rw [← hM49]; exact (m_s_n (fun q => absurd q.1 (of_ne1 (by decide)))).trans e41
    have e65 : M48 (p + 8) f = (Z f) + 1 := by rw [← hM49, m_s_s]
    have fr66 : fr (fun z => z = p ∨ (p + 6 ≤ z ∧ z ≤ p + 9)) M M48 := fun z hz => by
      have hz1 : ¬ (z = p ∨ (p + 6 ≤ z ∧ z ≤ p + 9)) := hz
      rw [← hM49]; exact (m_s_a (by omega)).trans (fr43 z hz)
    have rw67 : M48 (p + 6) = rset O ((f * 24) + (Z f)) q := by rw [← hM49]; exact (m_s_a (of_ne (by decide))).trans rw44
    have rw68 : M48 (p + 7) = rset Q ((f * 24) + (Z f)) v := by rw [← hM49]; exact (m_s_a (of_ne (by decide))).trans rw45
    have rw69 : M48 (p + 8) = inc Z f := by rw [← hM49]; exact row_inc rw46
    have rw70 : M48 (p + 9) = G := by rw [← hM49]; exact (m_s_a (of_ne (by decide))).trans rw47
    clear e27 e28 e29 e30 e31 e32 e33 e34 e35 e36 e37 e38 e39 e40 e41 fr43 rw44 rw45 rw46 rw47
    refine go_aload_n X d_Machine_addOperation_53 rfl rfl ?_
    refine go_get (v := vr (p + 8)) X f_Machine_45 h1 rfl d_Machine_addOperation_54 (s_varr e58 (by omega)) ?_
    refine go_iload_n X d_Machine_addOperation_57 rfl rfl ?_
    refine go_iald X a3 (by omega) (by omega) d_Machine_addOperation_58 ?_
    refine go_top (v' := vi ((inc Z f) f)) X (by rw [rw69]) ?_
    refine go_iret X d_Machine_addOperation_59 rfl ?_ (by omega) (by omega) ?_
    · rfl
    have e0 : inc Z f f = Z f + 1 := if_pos rfl
    rw [e0]
    have e1 : (if 13 ≤ q then max v 0 else v) = v := if_neg (by omega)
    rw [e1]
    exact ⟨rfl, rfl, rfl, ⟨h1, ⟨a1, a2, a3, a4⟩, ⟨e50, e51, e52, e53, e54⟩, ⟨e55, e56, e57, e58, e59, e60, e61, e62, e63, e64⟩, h5.mv (fun z q1 q2 => ⟨rfl, fr66 z (by omega)⟩), ⟨rw67, rw68, rw69, rw70⟩, h7⟩, fr66⟩
  · skip
    refine go_lload_n X d_Machine_addOperation_33 rfl rfl ?_
    refine go_lconst (x := 0) X d_Machine_addOperation_34 (by decide) ?_
    refine go_mmaxl X w_mmaxl_Machine_76 w_mmaxl_s w_imath w_mmaxl_c (by omega) (by omega) (by omega) (by omega) (by omega) (Nat.le_of_ble_eq_true rfl) d_Machine_addOperation_35 ?_
    refine go_goto (tgt := 42) X d_Machine_addOperation_38 rfl ?_
    refine go_last X a2 (by omega) (by omega) d_Machine_addOperation_42 ?_
    generalize hM72 : m_s M1 (p + 7) ((f * 24) + (Z f)) (max v 0) = M71
    have e73 : M71 p 0 = s := by rw [← hM72]; exact (m_s_n (fun q => absurd q.1 (of_ne1 (by decide)))).trans e3
    have e74 : M71 p 1 = c := by rw [← hM72]; exact (m_s_n (fun q => absurd q.1 (of_ne1 (by decide)))).trans e4
    have e75 : M71 p 2 = k := by rw [← hM72]; exact (m_s_n (fun q => absurd q.1 (of_ne1 (by decide)))).trans e5
    have e76 : M71 p 3 = g_ := by rw [← hM72]; exact (m_s_n (fun q => absurd q.1 (of_ne1 (by decide)))).trans e6
    have e77 : M71 p 4 = w := by rw [← hM72]; exact (m_s_n (fun q => absurd q.1 (of_ne1 (by decide)))).trans e7
    have e78 : M71 p 5 = p + 1 := by rw [← hM72]; exact (m_s_n (fun q => absurd q.1 (of_ne1 (by decide)))).trans e8
    have e79 : M71 p 6 = p + 6 := by rw [← hM72]; exact (m_s_n (fun q => absurd q.1 (of_ne1 (by decide)))).trans e9
    have e80 : M71 p 7 = p + 7 := by rw [← hM72]; exact (m_s_n (fun q => absurd q.1 (of_ne1 (by decide)))).trans e10
    have e81 : M71 p 8 = p + 8 := by rw [← hM72]; exact (m_s_n (fun q => absurd q.1 (of_ne1 (by decide)))).trans e11
    have e82 : M71 p 9 = p + 9 := by rw [← hM72]; exact (m_s_n (fun q => absurd q.1 (of_ne1 (by decide)))).trans e12
    have e83 : M71 p 10 = p + 10 := by rw [← hM72]; exact (m_s_n (fun q => absurd q.1 (of_ne1 (by decide)))).trans e13
    have e84 : M71 p 11 = p + 12 := by rw [← hM72]; exact (m_s_n (fun q => absurd q.1 (of_ne1 (by decide)))).trans e14
    have e85 : M71 p 12 = p + 14 := by rw [← hM72]; exact (m_s_n (fun q => absurd q.1 (of_ne1 (by decide)))).trans e15
    have e86 : M71 p 13 = p + 16 := by rw [← hM72]; exact (m_s_n (fun q => absurd q.1 (of_ne1 (by decide)))).trans e16
    have e87 : M71 p 14 = p + 19 := by rw [← hM72]; exact (m_s_n (fun q => absurd q.1 (of_ne1 (by decide)))).trans e17
    have e88 : M71 (p + 7) ((f * 24) + (Z f)) = max v 0 := by rw [← hM72, m_s_s]
    have fr89 : fr (fun z => z = p ∨ (p + 6 ≤ z ∧ z ≤ p + 9)) M M71 := fun z hz => by
      have hz1 : ¬ (z = p ∨ (p + 6 ≤ z ∧ z ≤ p + 9)) := hz
      rw [← hM72]; exact (m_s_a (by omega)).trans (fr19 z hz)
    have rw90 : M71 (p + 6) = rset O ((f * 24) + (Z f)) q := by rw [← hM72]; exact (m_s_a (of_ne (by decide))).trans rw20
    have rw91 : M71 (p + 7) = rset Q ((f * 24) + (Z f)) (max v 0) := by rw [← hM72]; exact row_set rw21
    have rw92 : M71 (p + 8) = Z := by rw [← hM72]; exact (m_s_a (of_ne (by decide))).trans rw22
    have rw93 : M71 (p + 9) = G := by rw [← hM72]; exact (m_s_a (of_ne (by decide))).trans rw23
    clear e10 e11 e12 e13 e14 e15 e16 e17 e3 e4 e5 e6 e7 e8 e9 fr19 rw20 rw21 rw22 rw23
    refine go_aload_n X d_Machine_addOperation_43 rfl rfl ?_
    refine go_get (v := vr (p + 8)) X f_Machine_45 h1 rfl d_Machine_addOperation_44 (s_varr e81 (by omega)) ?_
    refine go_iload_n X d_Machine_addOperation_47 rfl rfl ?_
    refine go_dup2 X d_Machine_addOperation_48 rfl rfl ?_
    refine go_iald X a3 (by omega) (by omega) d_Machine_addOperation_49 ?_
    refine go_top (v' := vi (Z f)) X (by rw [rw92]) ?_
    refine go_iconst (v := 1) X d_Machine_addOperation_50 ?_
    refine go_iadd X d_Machine_addOperation_51 ?_
    refine go_iast X a3 (by omega) (by omega) d_Machine_addOperation_52 ?_
    generalize hM95 : m_s M71 (p + 8) f ((Z f) + 1) = M94
    have e96 : M94 p 0 = s := by rw [← hM95]; exact (m_s_n (fun q => absurd q.1 (of_ne1 (by decide)))).trans e73
    have e97 : M94 p 1 = c := by rw [← hM95]; exact (m_s_n (fun q => absurd q.1 (of_ne1 (by decide)))).trans e74
    have e98 : M94 p 2 = k := by rw [← hM95]; exact (m_s_n (fun q => absurd q.1 (of_ne1 (by decide)))).trans e75
    have e99 : M94 p 3 = g_ := by rw [← hM95]; exact (m_s_n (fun q => absurd q.1 (of_ne1 (by decide)))).trans e76
    have e100 : M94 p 4 = w := by rw [← hM95]; exact (m_s_n (fun q => absurd q.1 (of_ne1 (by decide)))).trans e77
    have e101 : M94 p 5 = p + 1 := by rw [← hM95]; exact (m_s_n (fun q => absurd q.1 (of_ne1 (by decide)))).trans e78
    have e102 : M94 p 6 = p + 6 := by rw [← hM95]; exact (m_s_n (fun q => absurd q.1 (of_ne1 (by decide)))).trans e79
    have e103 : M94 p 7 = p + 7 := by rw [← hM95]; exact (m_s_n (fun q => absurd q.1 (of_ne1 (by decide)))).trans e80
    have e104 : M94 p 8 = p + 8 := by rw [← hM95]; exact (m_s_n (fun q => absurd q.1 (of_ne1 (by decide)))).trans e81
    have e105 : M94 p 9 = p + 9 := by rw [← hM95]; exact (m_s_n (fun q => absurd q.1 (of_ne1 (by decide)))).trans e82
    have e106 : M94 p 10 = p + 10 := by rw [← hM95]; exact (m_s_n (fun q => absurd q.1 (of_ne1 (by decide)))).trans e83
    have e107 : M94 p 11 = p + 12 := by rw [← hM95]; exact (m_s_n (fun q => absurd q.1 (of_ne1 (by decide)))).trans e84
    have e108 : M94 p 12 = p + 14 := by rw [← hM95]; exact (m_s_n (fun q => absurd q.1 (of_ne1 (by decide)))).trans e85
    have e109 : M94 p 13 = p + 16 := by rw [← hM95]; exact (m_s_n (fun q => absurd q.1 (of_ne1 (by decide)))).trans e86
    have e110 : M94 p 14 = p + 19 := by rw [← hM95]; exact (m_s_n (fun q => absurd q.1 (of_ne1 (by decide)))).trans e87
    have e111 : M94 (p + 8) f = (Z f) + 1 := by rw [← hM95, m_s_s]
    have fr112 : fr (fun z => z = p ∨ (p + 6 ≤ z ∧ z ≤ p + 9)) M M94 := fun z hz => by
      have hz1 : ¬ (z = p ∨ (p + 6 ≤ z ∧ z ≤ p + 9)) := hz
      rw [← hM95]; exact (m_s_a (by omega)).trans (fr89 z hz)
    have rw113 : M94 (p + 6) = rset O ((f * 24) + (Z f)) q := by rw [← hM95]; exact (m_s_a (of_ne (by decide))).trans rw90
    have rw114 : M94 (p + 7) = rset Q ((f * 24) + (Z f)) (max v 0) := by rw [← hM95]; exact (m_s_a (of_ne (by decide))).trans rw91
    have rw115 : M94 (p + 8) = inc Z f := by rw [← hM95]; exact row_inc rw92
    have rw116 : M94 (p + 9) = G := by rw [← hM95]; exact (m_s_a (of_ne (by decide))).trans rw93
    clear e73 e74 e75 e76 e77 e78 e79 e80 e81 e82 e83 e84 e85 e86 e87 fr89 rw90 rw91 rw92 rw93
    refine go_aload_n X d_Machine_addOperation_53 rfl rfl ?_
    refine go_get (v := vr (p + 8)) X f_Machine_45 h1 rfl d_Machine_addOperation_54 (s_varr e104 (by omega)) ?_
    refine go_iload_n X d_Machine_addOperation_57 rfl rfl ?_
    refine go_iald X a3 (by omega) (by omega) d_Machine_addOperation_58 ?_
    refine go_top (v' := vi ((inc Z f) f)) X (by rw [rw115]) ?_
    refine go_iret X d_Machine_addOperation_59 rfl ?_ (by omega) (by omega) ?_
    · rfl
    have e0 : inc Z f f = Z f + 1 := if_pos rfl
    rw [e0]
    have e1 : (if 13 ≤ q then max v 0 else v) = max v 0 := if_pos (by omega)
    rw [e1]
    exact ⟨rfl, rfl, rfl, ⟨h1, ⟨a1, a2, a3, a4⟩, ⟨e96, e97, e98, e99, e100⟩, ⟨e101, e102, e103, e104, e105, e106, e107, e108, e109, e110⟩, h5.mv (fun z q1 q2 => ⟨rfl, fr112 z (by omega)⟩), ⟨rw113, rw114, rw115, rw116⟩, h7⟩, fr112⟩
set_option maxHeartbeats 4000000 in
set_option maxRecDepth 100000 in
theorem c_Machine_dropOperations (l : Launch) (D : va_G) {sh : s_S} {M : s_M} {sz p s c k g_ w : Int} {O Q Z G : Int → Int} (h : mcv sh M p s c k g_ w O Q Z G) {f : Int} (hf : 0 ≤ f ∧ f < 6) (hZ : 0 ≤ Z f ∧ Z f ≤ 24) : Sp l D y_Machine_dropOperations prog_5_method_6_code 3 (some .int) 1 0 0 [vr p, vi f] sh M sz (fun v' sh' M' sz' => v' = some (vi (Z f)) ∧ sh' = sh ∧ sz' = sz ∧ mcv sh M' p s c k g_ w O Q (rset Z f 0) G ∧ fr (fun z => z = p ∨ (p + 6 ≤ z ∧ z ≤ p + 9)) M M') := by
  have hh := h
  obtain ⟨h1, ⟨a1, a2, a3, a4⟩, ⟨b1, b2, b3, b4, b5⟩, ⟨c1, c2, c3, c4, c5, c6, c7, c8, c9, c10⟩, h5, ⟨d1, d2, d3, d4⟩, h7⟩ := h
  refine Sp.ofGo (own := "CiteForge$Machine") (nm := "dropOperations") (by decide) rfl rfl (Nat.le_of_ble_eq_true rfl) (lv := [(0, vr p), (1, vi f)]) rfl ?_
  intro g X
  refine go_aload_n X d_Machine_dropOperations_0 rfl rfl ?_
  refine go_get (v := vr (p + 8)) X f_Machine_45 h1 rfl d_Machine_dropOperations_1 (s_varr c4 (by omega)) ?_
  refine go_iload_n X d_Machine_dropOperations_4 rfl rfl ?_
  refine go_iald X a3 (by omega) (by omega) d_Machine_dropOperations_5 ?_
  refine go_top (v' := vi (Z f)) X (by rw [d3]) ?_
  refine go_istore_n (lv' := [(2, vi (Z f)), (0, vr p), (1, vi f)]) X d_Machine_dropOperations_6 rfl (by decide) rfl ?_
  refine go_aload_n X d_Machine_dropOperations_7 rfl rfl ?_
  refine go_get (v := vr (p + 8)) X f_Machine_45 h1 rfl d_Machine_dropOperations_8 (s_varr c4 (by omega)) ?_
  refine go_iload_n X d_Machine_dropOperations_11 rfl rfl ?_
  refine go_iconst (v := 0) X d_Machine_dropOperations_12 ?_
  refine go_iast X a3 (by omega) (by omega) d_Machine_dropOperations_13 ?_
  generalize hM2 : m_s M (p + 8) f 0 = M1
  have e3 : M1 p 0 = s := by rw [← hM2]; exact (m_s_n (fun q => absurd q.1 (of_ne1 (by decide)))).trans b1
  have e4 : M1 p 1 = c := by rw [← hM2]; exact (m_s_n (fun q => absurd q.1 (of_ne1 (by decide)))).trans b2
  have e5 : M1 p 2 = k := by rw [← hM2]; exact (m_s_n (fun q => absurd q.1 (of_ne1 (by decide)))).trans b3
  have e6 : M1 p 3 = g_ := by rw [← hM2]; exact (m_s_n (fun q => absurd q.1 (of_ne1 (by decide)))).trans b4
  have e7 : M1 p 4 = w := by rw [← hM2]; exact (m_s_n (fun q => absurd q.1 (of_ne1 (by decide)))).trans b5
  have e8 : M1 p 5 = p + 1 := by rw [← hM2]; exact (m_s_n (fun q => absurd q.1 (of_ne1 (by decide)))).trans c1
  have e9 : M1 p 6 = p + 6 := by rw [← hM2]; exact (m_s_n (fun q => absurd q.1 (of_ne1 (by decide)))).trans c2
  have e10 : M1 p 7 = p + 7 := by rw [← hM2]; exact (m_s_n (fun q => absurd q.1 (of_ne1 (by decide)))).trans c3
  have e11 : M1 p 8 = p + 8 := by rw [← hM2]; exact (m_s_n (fun q => absurd q.1 (of_ne1 (by decide)))).trans c4
  have e12 : M1 p 9 = p + 9 := by rw [← hM2]; exact (m_s_n (fun q => absurd q.1 (of_ne1 (by decide)))).trans c5
  have e13 : M1 p 10 = p + 10 := by rw [← hM2]; exact (m_s_n (fun q => absurd q.1 (of_ne1 (by decide)))).trans c6
  have e14 : M1 p 11 = p + 12 := by rw [← hM2]; exact (m_s_n (fun q => absurd q.1 (of_ne1 (by decide)))).trans c7
  have e15 : M1 p 12 = p + 14 := by rw [← hM2]; exact (m_s_n (fun q => absurd q.1 (of_ne1 (by decide)))).trans c8
  have e16 : M1 p 13 = p + 16 := by rw [← hM2]; exact (m_s_n (fun q => absurd q.1 (of_ne1 (by decide)))).trans c9
  have e17 : M1 p 14 = p + 19 := by rw [← hM2]; exact (m_s_n (fun q => absurd q.1 (of_ne1 (by decide)))).trans c10
  have e18 : M1 (p + 8) f = 0 := by rw [← hM2, m_s_s]
  have fr19 : fr (fun z => z = p ∨ (p + 6 ≤ z ∧ z ≤ p + 9)) M M1 := fun z hz => by
    have hz1 : ¬ (z = p ∨ (p + 6 ≤ z ∧ z ≤ p + 9)) := hz
    rw [← hM2]; exact (m_s_a (by omega))
  have rw20 : M1 (p + 6) = O := by rw [← hM2]; exact (m_s_a (of_ne (by decide))).trans d1
  have rw21 : M1 (p + 7) = Q := by rw [← hM2]; exact (m_s_a (of_ne (by decide))).trans d2
  have rw22 : M1 (p + 8) = rset Z f 0 := by rw [← hM2]; exact row_set d3
  have rw23 : M1 (p + 9) = G := by rw [← hM2]; exact (m_s_a (of_ne (by decide))).trans d4
  refine go_iload_n X d_Machine_dropOperations_14 rfl rfl ?_
  refine go_iret X d_Machine_dropOperations_15 rfl ?_ (by omega) (by omega) ?_
  · rfl
  · exact ⟨rfl, rfl, rfl, ⟨h1, ⟨a1, a2, a3, a4⟩, ⟨e3, e4, e5, e6, e7⟩, ⟨e8, e9, e10, e11, e12, e13, e14, e15, e16, e17⟩, h5.mv (fun z q1 q2 => ⟨rfl, fr19 z (by omega)⟩), ⟨rw20, rw21, rw22, rw23⟩, h7⟩, fr19⟩
set_option maxHeartbeats 4000000 in
set_option maxRecDepth 100000 in
theorem c_Machine_operationsDone (l : Launch) (D : va_G) {sh : s_S} {M : s_M} {sz p s c k g_ w : Int} {O Q Z G : Int → Int} (h : mcv sh M p s c k g_ w O Q Z G) {v : Int} (hv : M p 16 = v) : Sp l D y_Machine_operationsDone prog_5_method_7_code 1 (some .int) 1 0 0 [vr p] sh M sz (pF (some (vi v)) sh M sz) := by
  have hh := h
  obtain ⟨h1, ⟨a1, a2, a3, a4⟩, ⟨b1, b2, b3, b4, b5⟩, ⟨c1, c2, c3, c4, c5, c6, c7, c8, c9, c10⟩, h5, ⟨d1, d2, d3, d4⟩, h7⟩ := h
  refine Sp.ofGo (own := "CiteForge$Machine") (nm := "operationsDone") (by decide) rfl rfl (Nat.le_of_ble_eq_true rfl) (lv := [(0, vr p)]) rfl ?_
  intro g X
  refine go_aload_n X d_Machine_operationsDone_0 rfl rfl ?_
  refine go_get (v := vi v) X f_Machine_82 h1 rfl d_Machine_operationsDone_1 (congrArg (s_v .int) hv) ?_
  refine go_iret X d_Machine_operationsDone_4 rfl ?_ (by omega) (by omega) ?_
  · rfl
  · exact ⟨rfl, rfl, rfl, rfl⟩
set_option maxHeartbeats 4000000 in
set_option maxRecDepth 100000 in
theorem c_Machine_runFunction0 (l : Launch) (D : va_G) {sh : s_S} {M : s_M} {sz p s c k g_ w : Int} {O Q Z G : Int → Int} (h : mcv sh M p s c k g_ w O Q Z G) {f : Int} (hf : 0 ≤ f ∧ f < 6) (hZ : Z f = 0) : Sp l D y_Machine_runFunction prog_5_method_9_code 8 (some .boolean) 1 0 0 [vr p, vl f, vi 1] sh M sz (pF (some (vi 1)) sh M sz) := by
  have hh := h
  obtain ⟨h1, ⟨a1, a2, a3, a4⟩, ⟨b1, b2, b3, b4, b5⟩, ⟨c1, c2, c3, c4, c5, c6, c7, c8, c9, c10⟩, h5, ⟨d1, d2, d3, d4⟩, h7⟩ := h
  refine Sp.ofGo (own := "CiteForge$Machine") (nm := "runFunction") (by decide) rfl rfl (Nat.le_of_ble_eq_true rfl) (lv := [(0, vr p), (1, vl f), (3, vi 1)]) rfl ?_
  intro g X
  refine go_iload_n X d_Machine_runFunction_0 rfl rfl ?_
  refine go_bipush (v := 8) X d_Machine_runFunction_1 (by decide) ?_
  refine go_icmp_le (tgt := 8) X d_Machine_runFunction_3 rfl (by omega) (by omega) (fun hq1 => ?_) (fun hq1 => ?_)
  · skip
    refine go_lload_n X d_Machine_runFunction_8 rfl rfl ?_
    refine go_l2i X d_Machine_runFunction_9 ?_
    refine go_bipush (v := 24) X d_Machine_runFunction_10 (by decide) ?_
    refine go_imul X d_Machine_runFunction_12 ?_
    refine go_istore (lv' := [(4, vi (f * 24)), (0, vr p), (1, vl f), (3, vi 1)]) X d_Machine_runFunction_13 (by decide) rfl ?_
    refine go_iload X d_Machine_runFunction_15 rfl ?_
    refine go_aload_n X d_Machine_runFunction_17 rfl rfl ?_
    refine go_get (v := vr (p + 8)) X f_Machine_45 h1 rfl d_Machine_runFunction_18 (s_varr c4 (by omega)) ?_
    refine go_lload_n X d_Machine_runFunction_21 rfl rfl ?_
    refine go_l2i X d_Machine_runFunction_22 ?_
    refine go_iald X a3 (by omega) (by omega) d_Machine_runFunction_23 ?_
    refine go_top (v' := vi (Z f)) X (by rw [d3]) ?_
    refine go_iadd X d_Machine_runFunction_24 ?_
    refine go_istore (lv' := [(5, vi ((f * 24) + (Z f))), (4, vi (f * 24)), (0, vr p), (1, vl f), (3, vi 1)]) X d_Machine_runFunction_25 (by decide) rfl ?_
    refine go_iload X d_Machine_runFunction_27 rfl ?_
    refine go_istore (lv' := [(6, vi (f * 24)), (5, vi ((f * 24) + (Z f))), (4, vi (f * 24)), (0, vr p), (1, vl f), (3, vi 1)]) X d_Machine_runFunction_29 (by decide) rfl ?_
    refine go_iload X d_Machine_runFunction_31 rfl ?_
    refine go_iload X d_Machine_runFunction_33 rfl ?_
    refine go_icmp_ge (tgt := 165) X d_Machine_runFunction_35 rfl (by omega) (by omega) (fun hq2 => ?_) (fun hq2 => ?_)
    · skip
      refine go_iconst (v := 1) X d_Machine_runFunction_165 ?_
      refine go_iret X d_Machine_runFunction_166 rfl ?_ (by omega) (by omega) ?_
      · rfl
      · exact ⟨rfl, rfl, rfl, rfl⟩
    · skip
      exfalso
      omega
  · skip
    exfalso
    omega
set_option maxHeartbeats 4000000 in
set_option maxRecDepth 100000 in
theorem c_Machine_start0 (l : Launch) (D : va_G) {sh : s_S} {M : s_M} {sz p s c k g_ w : Int} {O Q Z G : Int → Int} (h : mcv sh M p s c k g_ w O Q Z G) {f y n m : Int} {W L : Int → Int} (hf : 0 ≤ f ∧ f < 6) (hZ : Z f = 0) (hy : 0 ≤ y ∧ y ≤ 2) (hci0 : civ sh M c s w n m W L) (hm0 : m = 0) (hcp : c + 3 ≤ p) : Sp l D y_Machine_start prog_5_method_8_code 5 (some .boolean) 2 0 0 [vr p, vi f, vi y] sh M sz (fun v' sh' M' sz' => v' = some (vi 1) ∧ sh' = sh ∧ sz' = sz ∧ mcv sh M' p s c k g_ w O Q Z G ∧ M' p 16 = 0 ∧ fr (fun z => z = p) M M') := by
  have hh := h
  obtain ⟨h1, ⟨a1, a2, a3, a4⟩, ⟨b1, b2, b3, b4, b5⟩, ⟨c1, c2, c3, c4, c5, c6, c7, c8, c9, c10⟩, h5, ⟨d1, d2, d3, d4⟩, h7⟩ := h
  refine Sp.ofGo (own := "CiteForge$Machine") (nm := "start") (by decide) rfl rfl (Nat.le_of_ble_eq_true rfl) (lv := [(0, vr p), (1, vi f), (2, vi y)]) rfl ?_
  intro g X
  refine go_aload_n X d_Machine_start_0 rfl rfl ?_
  refine go_iconst (v := 0) X d_Machine_start_1 ?_
  refine go_put (x := 0) (v := vi 0) X f_Machine_82 h1 rfl d_Machine_start_2 rfl rfl rfl ?_
  generalize hM2 : m_s M p 16 0 = M1
  have e3 : M1 p 0 = s := by rw [← hM2]; exact (m_s_n (fun q => absurd q.2 (by decide))).trans b1
  have e4 : M1 p 1 = c := by rw [← hM2]; exact (m_s_n (fun q => absurd q.2 (by decide))).trans b2
  have e5 : M1 p 2 = k := by rw [← hM2]; exact (m_s_n (fun q => absurd q.2 (by decide))).trans b3
  have e6 : M1 p 3 = g_ := by rw [← hM2]; exact (m_s_n (fun q => absurd q.2 (by decide))).trans b4
  have e7 : M1 p 4 = w := by rw [← hM2]; exact (m_s_n (fun q => absurd q.2 (by decide))).trans b5
  have e8 : M1 p 5 = p + 1 := by rw [← hM2]; exact (m_s_n (fun q => absurd q.2 (by decide))).trans c1
  have e9 : M1 p 6 = p + 6 := by rw [← hM2]; exact (m_s_n (fun q => absurd q.2 (by decide))).trans c2
  have e10 : M1 p 7 = p + 7 := by rw [← hM2]; exact (m_s_n (fun q => absurd q.2 (by decide))).trans c3
  have e11 : M1 p 8 = p + 8 := by rw [← hM2]; exact (m_s_n (fun q => absurd q.2 (by decide))).trans c4
  have e12 : M1 p 9 = p + 9 := by rw [← hM2]; exact (m_s_n (fun q => absurd q.2 (by decide))).trans c5
  have e13 : M1 p 10 = p + 10 := by rw [← hM2]; exact (m_s_n (fun q => absurd q.2 (by decide))).trans c6
  have e14 : M1 p 11 = p + 12 := by rw [← hM2]; exact (m_s_n (fun q => absurd q.2 (by decide))).trans c7
  have e15 : M1 p 12 = p + 14 := by rw [← hM2]; exact (m_s_n (fun q => absurd q.2 (by decide))).trans c8
  have e16 : M1 p 13 = p + 16 := by rw [← hM2]; exact (m_s_n (fun q => absurd q.2 (by decide))).trans c9
  have e17 : M1 p 14 = p + 19 := by rw [← hM2]; exact (m_s_n (fun q => absurd q.2 (by decide))).trans c10
  have e18 : M1 p 16 = 0 := by rw [← hM2, m_s_s]
  have fr19 : fr (fun z => z = p) M M1 := fun z hz => by
    have hz1 : ¬ (z = p) := hz
    rw [← hM2]; exact (m_s_a (by omega))
  have rw20 : M1 (p + 6) = O := by rw [← hM2]; exact (m_s_a (of_ne0 (by decide))).trans d1
  have rw21 : M1 (p + 7) = Q := by rw [← hM2]; exact (m_s_a (of_ne0 (by decide))).trans d2
  have rw22 : M1 (p + 8) = Z := by rw [← hM2]; exact (m_s_a (of_ne0 (by decide))).trans d3
  have rw23 : M1 (p + 9) = G := by rw [← hM2]; exact (m_s_a (of_ne0 (by decide))).trans d4
  refine go_aload_n X d_Machine_start_5 rfl rfl ?_
  refine go_null X d_Machine_start_6 ?_
  refine go_put (x := (-1)) (v := .null) X f_Machine_86 h1 rfl d_Machine_start_7 (s_vnull (by omega)) rfl rfl ?_
  generalize hM25 : m_s M1 p 15 (-1) = M24
  have e26 : M24 p 0 = s := by rw [← hM25]; exact (m_s_n (fun q => absurd q.2 (by decide))).trans e3
  have e27 : M24 p 1 = c := by rw [← hM25]; exact (m_s_n (fun q => absurd q.2 (by decide))).trans e4
  have e28 : M24 p 2 = k := by rw [← hM25]; exact (m_s_n (fun q => absurd q.2 (by decide))).trans e5
  have e29 : M24 p 3 = g_ := by rw [← hM25]; exact (m_s_n (fun q => absurd q.2 (by decide))).trans e6
  have e30 : M24 p 4 = w := by rw [← hM25]; exact (m_s_n (fun q => absurd q.2 (by decide))).trans e7
  have e31 : M24 p 5 = p + 1 := by rw [← hM25]; exact (m_s_n (fun q => absurd q.2 (by decide))).trans e8
  have e32 : M24 p 6 = p + 6 := by rw [← hM25]; exact (m_s_n (fun q => absurd q.2 (by decide))).trans e9
  have e33 : M24 p 7 = p + 7 := by rw [← hM25]; exact (m_s_n (fun q => absurd q.2 (by decide))).trans e10
  have e34 : M24 p 8 = p + 8 := by rw [← hM25]; exact (m_s_n (fun q => absurd q.2 (by decide))).trans e11
  have e35 : M24 p 9 = p + 9 := by rw [← hM25]; exact (m_s_n (fun q => absurd q.2 (by decide))).trans e12
  have e36 : M24 p 10 = p + 10 := by rw [← hM25]; exact (m_s_n (fun q => absurd q.2 (by decide))).trans e13
  have e37 : M24 p 11 = p + 12 := by rw [← hM25]; exact (m_s_n (fun q => absurd q.2 (by decide))).trans e14
  have e38 : M24 p 12 = p + 14 := by rw [← hM25]; exact (m_s_n (fun q => absurd q.2 (by decide))).trans e15
  have e39 : M24 p 13 = p + 16 := by rw [← hM25]; exact (m_s_n (fun q => absurd q.2 (by decide))).trans e16
  have e40 : M24 p 14 = p + 19 := by rw [← hM25]; exact (m_s_n (fun q => absurd q.2 (by decide))).trans e17
  have e41 : M24 p 16 = 0 := by rw [← hM25]; exact (m_s_n (fun q => absurd q.2 (by decide))).trans e18
  have e42 : M24 p 15 = (-1) := by rw [← hM25, m_s_s]
  have fr43 : fr (fun z => z = p) M M24 := fun z hz => by
    have hz1 : ¬ (z = p) := hz
    rw [← hM25]; exact (m_s_a (by omega)).trans (fr19 z hz)
  have rw44 : M24 (p + 6) = O := by rw [← hM25]; exact (m_s_a (of_ne0 (by decide))).trans rw20
  have rw45 : M24 (p + 7) = Q := by rw [← hM25]; exact (m_s_a (of_ne0 (by decide))).trans rw21
  have rw46 : M24 (p + 8) = Z := by rw [← hM25]; exact (m_s_a (of_ne0 (by decide))).trans rw22
  have rw47 : M24 (p + 9) = G := by rw [← hM25]; exact (m_s_a (of_ne0 (by decide))).trans rw23
  clear e10 e11 e12 e13 e14 e15 e16 e17 e18 e3 e4 e5 e6 e7 e8 e9 fr19 rw20 rw21 rw22 rw23
  refine go_iload_n X d_Machine_start_10 rfl rfl ?_
  refine go_if_ne (tgt := 22) X d_Machine_start_11 rfl (by omega) (fun hq48 => ?_) (fun hq48 => ?_)
  · skip
    refine go_aload_n X d_Machine_start_22 rfl rfl ?_
    refine go_get (v := vr c) X f_Machine_15 h1 rfl d_Machine_start_23 (s_vref e27 (by omega)) ?_
    have hci := hci0.mv (sh' := sh) (M' := M24) (fun z q1 q2 => ⟨rfl, fr43 z (by omega)⟩) rfl
    refine go_cVf (st2 := [vi m]) (r := []) X k_Machine_94 (c_Citations_listSize l D hci) hci.1 rfl rfl (by omega) (Nat.le_of_ble_eq_true rfl) d_Machine_start_26 (by omega) (by omega) rfl ?_
    refine go_istore_n (lv' := [(3, vi m), (0, vr p), (1, vi f), (2, vi y)]) X d_Machine_start_29 rfl (by decide) rfl ?_
    refine go_iconst (v := 0) X d_Machine_start_30 ?_
    refine go_istore (lv' := [(4, vi 0), (3, vi m), (0, vr p), (1, vi f), (2, vi y)]) X d_Machine_start_31 (by decide) rfl ?_
    refine go_iload X d_Machine_start_33 rfl ?_
    refine go_iload_n X d_Machine_start_35 rfl rfl ?_
    refine go_icmp_ge (tgt := 84) X d_Machine_start_36 rfl (by omega) (by omega) (fun hq49 => ?_) (fun hq49 => ?_)
    · skip
      refine go_iconst (v := 1) X d_Machine_start_84 ?_
      refine go_iret X d_Machine_start_85 rfl ?_ (by omega) (by omega) ?_
      · rfl
      exact ⟨rfl, rfl, rfl, ⟨h1, ⟨a1, a2, a3, a4⟩, ⟨e26, e27, e28, e29, e30⟩, ⟨e31, e32, e33, e34, e35, e36, e37, e38, e39, e40⟩, h5.mv (fun z q1 q2 => ⟨rfl, fr43 z (by omega)⟩), ⟨rw44, rw45, rw46, rw47⟩, h7⟩, e41, fr43⟩
    · skip
      exfalso
      omega
  · skip
    refine go_aload_n X d_Machine_start_14 rfl rfl ?_
    refine go_iload_n X d_Machine_start_15 rfl rfl ?_
    refine go_i2l X d_Machine_start_16 (by omega) ?_
    refine go_iconst (v := 1) X d_Machine_start_17 ?_
    have hmc : mcv sh M24 p s c k g_ w O Q Z G := ⟨h1, ⟨a1, a2, a3, a4⟩, ⟨e26, e27, e28, e29, e30⟩, ⟨e31, e32, e33, e34, e35, e36, e37, e38, e39, e40⟩, h5.mv (fun z q1 q2 => ⟨rfl, fr43 z (by omega)⟩), ⟨rw44, rw45, rw46, rw47⟩, h7⟩
    refine go_cVf (st2 := [vi 1]) (r := []) X k_Machine_90 (c_Machine_runFunction0 l D hmc (by omega) hZ) h1 rfl rfl (by omega) (Nat.le_of_ble_eq_true rfl) d_Machine_start_18 (by omega) (by omega) rfl ?_
    refine go_iret X d_Machine_start_21 rfl ?_ (by omega) (by omega) ?_
    · rfl
    exact ⟨rfl, rfl, rfl, ⟨h1, ⟨a1, a2, a3, a4⟩, ⟨e26, e27, e28, e29, e30⟩, ⟨e31, e32, e33, e34, e35, e36, e37, e38, e39, e40⟩, h5.mv (fun z q1 q2 => ⟨rfl, fr43 z (by omega)⟩), ⟨rw44, rw45, rw46, rw47⟩, h7⟩, e41, fr43⟩
set_option maxHeartbeats 4000000 in
set_option maxRecDepth 100000 in
theorem c_Page_lineCount (l : Launch) (D : va_G) {sh : s_S} {M : s_M} {sz p n : Int} {t : List Int} (h : pg0 sh M p n t) : Sp l D y_Page_lineCount prog_6_method_2_code 1 (some .int) 1 0 0 [vr p] sh M sz (pF (some (vi n)) sh M sz) := by
  have hh := h
  obtain ⟨h1, h2, h3, h4, h5, h6, h7, h8⟩ := h
  refine Sp.ofGo (own := "CiteForge$Page") (nm := "lineCount") (by decide) rfl rfl (Nat.le_of_ble_eq_true rfl) (lv := [(0, vr p)]) rfl ?_
  intro g X
  refine go_aload_n X d_Page_lineCount_0 rfl rfl ?_
  refine go_get (v := vi n) X f_Page_22 h1 rfl d_Page_lineCount_1 (congrArg (s_v .int) h5) ?_
  refine go_iret X d_Page_lineCount_4 rfl ?_ (by omega) (by omega) ?_
  · rfl
  · exact ⟨rfl, rfl, rfl, rfl⟩
set_option maxHeartbeats 4000000 in
set_option maxRecDepth 100000 in
theorem c_Page_lengthAtHand (l : Launch) (D : va_G) {sh : s_S} {M : s_M} {sz p n : Int} {t : List Int} (h : pg0 sh M p n t) : Sp l D y_Page_lengthAtHand prog_6_method_3_code 1 (some .int) 2 0 0 [vr p] sh M sz (pF (some (vi t.length)) sh M sz) := by
  have hh := h
  obtain ⟨h1, h2, h3, h4, h5, h6, h7, h8⟩ := h
  refine Sp.ofGo (own := "CiteForge$Page") (nm := "lengthAtHand") (by decide) rfl rfl (Nat.le_of_ble_eq_true rfl) (lv := [(0, vr p)]) rfl ?_
  intro g X
  refine go_aload_n X d_Page_lengthAtHand_0 rfl rfl ?_
  refine go_get (v := vr (p + 1)) X f_Page_14 h1 rfl d_Page_lengthAtHand_1 (s_vref h3 (by omega)) ?_
  refine go_cVf (st2 := [vi (t.length : Int)]) (r := []) X k_Page_26 (k_Text_size l D h8) h8.1.1 rfl rfl (by omega) (Nat.le_of_ble_eq_true rfl) d_Page_lengthAtHand_4 (by omega) (by omega) rfl ?_
  refine go_iret X d_Page_lengthAtHand_7 rfl ?_ (by omega) (by omega) ?_
  · rfl
  · exact ⟨rfl, rfl, rfl, rfl⟩
set_option maxHeartbeats 4000000 in
set_option maxRecDepth 100000 in
theorem c_Page_isKept (l : Launch) (D : va_G) {sh : s_S} {M : s_M} {sz p n : Int} {t : List Int} (h : pg0 sh M p n t) (hn : n < 2147483648) {i : Int} (hi : -2147483648 ≤ i ∧ i < 2147483648) : Sp l D y_Page_isKept prog_6_method_4_code 2 (some .boolean) 1 0 0 [vr p, vi i] sh M sz (pF (some (vi (s_b (decide (0 ≤ i ∧ i < n ∧ i < 24))))) sh M sz) := by
  have hh := h
  obtain ⟨h1, h2, h3, h4, h5, h6, h7, h8⟩ := h
  refine Sp.ofGo (own := "CiteForge$Page") (nm := "isKept") (by decide) rfl rfl (Nat.le_of_ble_eq_true rfl) (lv := [(0, vr p), (1, vi i)]) rfl ?_
  intro g X
  refine go_iload_n X d_Page_isKept_0 rfl rfl ?_
  refine go_if_lt (tgt := 22) X d_Page_isKept_1 rfl (by omega) (fun hq1 => ?_) (fun hq1 => ?_)
  · skip
    refine go_iconst (v := 0) X d_Page_isKept_22 ?_
    refine go_iret X d_Page_isKept_23 rfl ?_ (by omega) (by omega) ?_
    · rfl
    · refine ⟨?_, rfl, rfl, rfl⟩
      have hb : decide (0 ≤ i ∧ i < n ∧ i < 24) = false := by simp only [decide_eq_true_eq, decide_eq_false_iff_not]; omega
      rw [hb]; rfl
  · skip
    refine go_iload_n X d_Page_isKept_4 rfl rfl ?_
    refine go_aload_n X d_Page_isKept_5 rfl rfl ?_
    refine go_get (v := vi n) X f_Page_22 h1 rfl d_Page_isKept_6 (congrArg (s_v .int) h5) ?_
    refine go_icmp_ge (tgt := 22) X d_Page_isKept_9 rfl (by omega) (by omega) (fun hq2 => ?_) (fun hq2 => ?_)
    · skip
      refine go_iconst (v := 0) X d_Page_isKept_22 ?_
      refine go_iret X d_Page_isKept_23 rfl ?_ (by omega) (by omega) ?_
      · rfl
      · refine ⟨?_, rfl, rfl, rfl⟩
        have hb : decide (0 ≤ i ∧ i < n ∧ i < 24) = false := by simp only [decide_eq_true_eq, decide_eq_false_iff_not]; omega
        rw [hb]; rfl
    · skip
      refine go_iload_n X d_Page_isKept_12 rfl rfl ?_
      refine go_bipush (v := 24) X d_Page_isKept_13 (by decide) ?_
      refine go_icmp_ge (tgt := 22) X d_Page_isKept_15 rfl (by omega) (by omega) (fun hq3 => ?_) (fun hq3 => ?_)
      · skip
        refine go_iconst (v := 0) X d_Page_isKept_22 ?_
        refine go_iret X d_Page_isKept_23 rfl ?_ (by omega) (by omega) ?_
        · rfl
        · refine ⟨?_, rfl, rfl, rfl⟩
          have hb : decide (0 ≤ i ∧ i < n ∧ i < 24) = false := by simp only [decide_eq_true_eq, decide_eq_false_iff_not]; omega
          rw [hb]; rfl
      · skip
        refine go_iconst (v := 1) X d_Page_isKept_18 ?_
        refine go_goto (tgt := 23) X d_Page_isKept_19 rfl ?_
        refine go_iret X d_Page_isKept_23 rfl ?_ (by omega) (by omega) ?_
        · rfl
        · refine ⟨?_, rfl, rfl, rfl⟩
          have hb : decide (0 ≤ i ∧ i < n ∧ i < 24) = true := by simp only [decide_eq_true_eq, decide_eq_false_iff_not]; omega
          rw [hb]; rfl
