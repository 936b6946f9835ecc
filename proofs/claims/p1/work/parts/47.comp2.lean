theorem ads_len {x n : Int} {t : List Int} (h0 : 0 ≤ n) (h : (t.length : Int) + n ≤ 320) : ((ads x n t).length : Int) = t.length + n := by
  have key : ∀ (m : Nat) (i : Int) (u : List Int), (u.length : Int) + m ≤ 320 → ((it (adst x) m i u).length : Int) = u.length + m := by
    intro m
    induction m with
    | zero => intro i u _; show (u.length : Int) = u.length + ((0 : Nat) : Int); omega
    | succ m ih =>
      intro i u hu
      have e : ((adst x i u).length : Int) = u.length + 1 := by
        unfold adst ta
        rw [if_pos (by omega), List.length_append]
        rfl
      show ((it (adst x) m (i + 1) (adst x i u)).length : Int) = _
      rw [ih (i + 1) (adst x i u) (by omega), e]
      omega
  have := key (n - 0).toNat 0 t (by omega)
  unfold ads
  omega
set_option maxHeartbeats 4000000 in
set_option maxRecDepth 100000 in
theorem c_Reader_addCharacters (l : Launch) (D : va_G) {sh : s_S} {M : s_M} {sz p s w n : Int} {t : List Int} {W : Int → Int} {Y : Int → List Int} {v : List Int} (h : rdv sh M p s w n t W Y v) {x q : Int} (hx : 0 ≤ x ∧ x < 18446744073709551616) (hq : 0 ≤ q ∧ q ≤ 8) : Sp l D y_Reader_addCharacters prog_8_method_4_code 5 (some .int) 3 0 0 [vr p, vl x, vi q] sh M sz (fun v' sh' M' sz' => v' = some (vi (ads x q t).length) ∧ sh' = sh ∧ sz' = sz ∧ rdv sh M' p s w n (ads x q t) W Y v ∧ fr (fun z => p ≤ z ∧ z ≤ p + 22) M M') := by
  have hh := h
  obtain ⟨h1, h2, h3, h4, h5, h6, h7, h8, h9, h10, h11, h12, h13, h14, h15, h16, h17, h18, h19, h20, h21⟩ := h
  have hln := h17.len
  refine Sp.ofGo (own := "CiteForge$Reader") (nm := "addCharacters") (by decide) rfl rfl (Nat.le_of_ble_eq_true rfl) (lv := [(0, vr p), (1, vl x), (3, vi q)]) rfl ?_
  intro g X
  refine go_iconst (v := 0) X d_Reader_addCharacters_0 ?_
  refine go_istore (lv' := [(4, vi 0), (0, vr p), (1, vl x), (3, vi q)]) X d_Reader_addCharacters_1 (by decide) rfl ?_
  have loop : ∀ (fuel : Nat) (i : Int) (u : List Int) (Mx : s_M), (0 ≤ i) → (i ≤ q) → (tv sh Mx (p + 1) 320 u) → (fr (fun z => z = p + 1 ∨ z = p + 2) M Mx) → (it (adst x) (q - i).toNat i u = ads x q t) → (q - i).toNat < fuel → Go g 0 0 sh Mx sz 3 [(0, vr p), (1, vl x), (3, vi q), (4, vi i)] [] := by
    intro fuel
    induction fuel with
    | zero => intro i u Mx hi hi2 hu hfr hp hm_loop; exact absurd hm_loop (Nat.not_lt_zero _)
    | succ fuel ih_loop =>
      intro i u Mx hi hi2 hu hfr hp hm_loop
      have g7 : Mx p 2 = p + 1 := (congrFun (hfr p (by omega)) _).trans h7
      have hul := hu.len
      refine go_iload X d_Reader_addCharacters_3 rfl ?_
      refine go_iload_n X d_Reader_addCharacters_5 rfl rfl ?_
      refine go_icmp_ge (tgt := 28) X d_Reader_addCharacters_6 rfl (by omega) (by omega) (fun hq1 => ?_) (fun hq1 => ?_)
      · skip
        refine go_aload_n X d_Reader_addCharacters_28 rfl rfl ?_
        refine go_get (v := vr (p + 1)) X f_Reader_24 h1 rfl d_Reader_addCharacters_29 (s_vref g7 (by omega)) ?_
        refine go_cVf (st2 := [vi (u.length : Int)]) (r := []) X k_Reader_50 (k_Text_size l D hu) hu.1.1 rfl rfl (by omega) (Nat.le_of_ble_eq_true rfl) d_Reader_addCharacters_32 (by omega) (by omega) rfl ?_
        refine go_iret X d_Reader_addCharacters_35 rfl ?_ (by omega) (by omega) ?_
        · rfl
        have e0 := it_fin (adst x) hp (by omega)
        have e1 : ads x q t = u := e0
        rw [e1]
        have g := hfr
        have gp : Mx p = M p := (g (p) (by omega))
        exact ⟨rfl, rfl, rfl, ⟨h1, h2, h3, h4, by rw [gp]; exact h5, by rw [gp]; exact h6, by rw [gp]; exact h7, by rw [gp]; exact h8, by rw [gp]; exact h9, by rw [gp]; exact h10, by rw [gp]; exact h11, h12, h13, h14, h15, h16, hu, by rw [g (p + 3) (by omega)]; exact h18, h19, h20.mv (fun z q1 q2 => ⟨rfl, g z (by omega)⟩), h21.mv (fun z q1 q2 => ⟨rfl, g z (by omega)⟩)⟩, fun z hz => g z (by have hz1 : ¬ (p ≤ z ∧ z ≤ p + 22) := hz; omega)⟩
      · skip
        refine go_aload_n X d_Reader_addCharacters_9 rfl rfl ?_
        refine go_get (v := vr (p + 1)) X f_Reader_24 h1 rfl d_Reader_addCharacters_10 (s_vref g7 (by omega)) ?_
        refine go_lload_n X d_Reader_addCharacters_13 rfl rfl ?_
        refine go_iload X d_Reader_addCharacters_14 rfl ?_
        refine go_cSf (st2 := [vi (by_ x i), vr (p + 1)]) (r := [vr (p + 1)]) X k_Reader_42 (c_byteOf l D (by omega) (by omega)) rfl rfl (by omega) (Nat.le_of_ble_eq_true rfl) d_Reader_addCharacters_16 (by omega) (by omega) rfl ?_
        have hb0 := by_r x i
        refine go_cV (st2 := []) (r := []) X k_Reader_54 (k_Text_add l D hu (by omega)) hu.1.1 rfl rfl (by omega) (Nat.le_of_ble_eq_true rfl) d_Reader_addCharacters_19 (by omega) (by omega) (fun v sh' M2 sz' hp3 => ?_)
        obtain ⟨e4, e5, e6, tv7, fr8⟩ := hp3
        subst e4
        rw [e5, e6]
        show Go g 0 0 sh M2 sz 22 [(0, vr p), (1, vl x), (3, vi q), (4, vi i)] []
        have e9 : M2 p 2 = p + 1 := (congrFun (fr8 p (by omega)) _).trans g7
        have fr10 : fr (fun z => z = p + 1 ∨ z = p + 2) M M2 := fun z hz => by
          have hz1 : ¬ (z = p + 1 ∨ z = p + 2) := hz
          exact (fr8 z (by omega)).trans (hfr z hz)
        clear fr8
        have hn := it_nxt (adst x) (s' := ta 320 u (by_ x i)) hp (by omega) rfl
        refine go_iinc (v := 1) (x := i) (lv' := [(4, vi (i + 1)), (0, vr p), (1, vl x), (3, vi q)]) X d_Reader_addCharacters_22 rfl (by decide) rfl ?_
        refine go_goto (tgt := 3) X d_Reader_addCharacters_25 rfl ?_
        refine go_lv (lv' := [(0, vr p), (1, vl x), (3, vi q), (4, vi (i + 1))]) X [1, 2, 3, 0] rfl ?_
        exact ih_loop (i + 1) (ta 320 u (by_ x i)) M2 (by omega) (by omega) tv7 fr10 hn (by omega)
  refine go_lv (lv' := [(0, vr p), (1, vl x), (3, vi q), (4, vi 0)]) X [1, 2, 3, 0] rfl ?_
  exact loop _ 0 t M (by omega) (by omega) h17 (fun z _ => rfl) rfl (Nat.lt_succ_self _)
set_option maxHeartbeats 4000000 in
set_option maxRecDepth 100000 in
theorem c_Reader_begin (l : Launch) (D : va_G) {sh : s_S} {M : s_M} {sz p s w n : Int} {t : List Int} {W : Int → Int} {Y : Int → List Int} {v : List Int} (h : rdv sh M p s w n t W Y v) {ns : Int} {E : Int → sen} (hsh0 : shv sh M s w ns E) (hsp : s + 155 ≤ p) : Sp l D y_Reader_begin prog_8_method_6_code 1 none 2 0 0 [vr p] sh M sz (fun v' sh' M' sz' => v' = none ∧ sh' = sh ∧ sz' = sz ∧ shv sh M' s w 0 E ∧ rdv sh M' p s w 0 t W Y v ∧ M' p 6 = 0 ∧ M' p 7 = 0 ∧ fr (fun z => z = s ∨ (p ≤ z ∧ z ≤ p + 22)) M M') := by
  have hh := h
  obtain ⟨h1, h2, h3, h4, h5, h6, h7, h8, h9, h10, h11, h12, h13, h14, h15, h16, h17, h18, h19, h20, h21⟩ := h
  have hln := h17.len
  refine Sp.ofGo (own := "CiteForge$Reader") (nm := "begin") (by decide) rfl rfl (Nat.le_of_ble_eq_true rfl) (lv := [(0, vr p)]) rfl ?_
  intro g X
  refine go_aload_n X d_Reader_begin_0 rfl rfl ?_
  refine go_get (v := vr s) X f_Reader_9 h1 rfl d_Reader_begin_1 (s_vref h5 (by omega)) ?_
  refine go_cV (st2 := []) (r := []) X k_Reader_61 (c_Shelf_dropAll l D hsh0) hsh0.1 rfl rfl (by omega) (Nat.le_of_ble_eq_true rfl) d_Reader_begin_4 (by omega) (by omega) (fun v' sh' M1 sz' hp => ?_)
  obtain ⟨e2, e3, e4, pd5, fr6⟩ := hp
  subst e2
  rw [e3, e4]
  show Go g 0 0 sh M1 sz 7 [(0, vr p)] []
  have e7 : M1 p 0 = s := (congrFun (fr6 p (by omega)) _).trans h5
  have e8 : M1 p 1 = w := (congrFun (fr6 p (by omega)) _).trans h6
  have e9 : M1 p 2 = p + 1 := (congrFun (fr6 p (by omega)) _).trans h7
  have e10 : M1 p 3 = p + 3 := (congrFun (fr6 p (by omega)) _).trans h8
  have e11 : M1 p 4 = p + 4 := (congrFun (fr6 p (by omega)) _).trans h9
  have e12 : M1 p 11 = p + 21 := (congrFun (fr6 p (by omega)) _).trans h10
  have e13 : M1 p 5 = n := (congrFun (fr6 p (by omega)) _).trans h11
  have tv14 := h17.kept (fr6 (p + 1) (by omega)) (fr6 (p + 1 + 1) (by omega))
  have tv15 := h21.kept (fr6 (p + 21) (by omega)) (fr6 (p + 21 + 1) (by omega))
  have fr16 : fr (fun z => z = s ∨ (p ≤ z ∧ z ≤ p + 22)) M M1 := fun z hz => by
    have hz1 : ¬ (z = s ∨ (p ≤ z ∧ z ≤ p + 22)) := hz
    exact (fr6 z (by omega))
  have rw17 : M1 (p + 3) = W := (fr6 (p + 3) (by omega)).trans h18
  have tx18 : txs sh M1 (p + 4) 8 Y := h20.kept (fun z hz1 hz2 => fr6 z (by omega))
  clear fr6
  have hshk := pd5
  refine go_aload_n X d_Reader_begin_7 rfl rfl ?_
  refine go_iconst (v := 0) X d_Reader_begin_8 ?_
  refine go_put (x := 0) (v := vi 0) X f_Reader_66 h1 rfl d_Reader_begin_9 rfl rfl rfl ?_
  generalize hM20 : m_s M1 p 5 0 = M19
  have e21 : M19 p 0 = s := by rw [← hM20]; exact (m_s_n (fun q => absurd q.2 (by decide))).trans e7
  have e22 : M19 p 1 = w := by rw [← hM20]; exact (m_s_n (fun q => absurd q.2 (by decide))).trans e8
  have e23 : M19 p 2 = p + 1 := by rw [← hM20]; exact (m_s_n (fun q => absurd q.2 (by decide))).trans e9
  have e24 : M19 p 3 = p + 3 := by rw [← hM20]; exact (m_s_n (fun q => absurd q.2 (by decide))).trans e10
  have e25 : M19 p 4 = p + 4 := by rw [← hM20]; exact (m_s_n (fun q => absurd q.2 (by decide))).trans e11
  have e26 : M19 p 11 = p + 21 := by rw [← hM20]; exact (m_s_n (fun q => absurd q.2 (by decide))).trans e12
  have e27 : M19 p 5 = 0 := by rw [← hM20, m_s_s]
  have tv28 := tv14.kept (M' := M19) (by rw [← hM20]; exact m_s_a (by omega)) (by rw [← hM20]; exact m_s_a (by omega))
  have tv29 := tv15.kept (M' := M19) (by rw [← hM20]; exact m_s_a (by omega)) (by rw [← hM20]; exact m_s_a (by omega))
  have fr30 : fr (fun z => z = s ∨ (p ≤ z ∧ z ≤ p + 22)) M M19 := fun z hz => by
    have hz1 : ¬ (z = s ∨ (p ≤ z ∧ z ≤ p + 22)) := hz
    rw [← hM20]; exact (m_s_a (by omega)).trans (fr16 z hz)
  have rw31 : M19 (p + 3) = W := by rw [← hM20]; exact (m_s_a (of_ne0 (by decide))).trans rw17
  have tx32 : txs sh M19 (p + 4) 8 Y := tx18.kept (fun z hz1 hz2 => by rw [← hM20]; exact m_s_a (of_gt hz1 (by decide)))
  clear e10 e11 e12 e13 e7 e8 e9 fr16 rw17 tv14 tv15 tx18
  refine go_aload_n X d_Reader_begin_12 rfl rfl ?_
  refine go_iconst (v := 0) X d_Reader_begin_13 ?_
  refine go_put (x := 0) (v := vi 0) X f_Reader_70 h1 rfl d_Reader_begin_14 rfl rfl rfl ?_
  generalize hM34 : m_s M19 p 6 0 = M33
  have e35 : M33 p 0 = s := by rw [← hM34]; exact (m_s_n (fun q => absurd q.2 (by decide))).trans e21
  have e36 : M33 p 1 = w := by rw [← hM34]; exact (m_s_n (fun q => absurd q.2 (by decide))).trans e22
  have e37 : M33 p 2 = p + 1 := by rw [← hM34]; exact (m_s_n (fun q => absurd q.2 (by decide))).trans e23
  have e38 : M33 p 3 = p + 3 := by rw [← hM34]; exact (m_s_n (fun q => absurd q.2 (by decide))).trans e24
  have e39 : M33 p 4 = p + 4 := by rw [← hM34]; exact (m_s_n (fun q => absurd q.2 (by decide))).trans e25
  have e40 : M33 p 11 = p + 21 := by rw [← hM34]; exact (m_s_n (fun q => absurd q.2 (by decide))).trans e26
  have e41 : M33 p 5 = 0 := by rw [← hM34]; exact (m_s_n (fun q => absurd q.2 (by decide))).trans e27
  have e42 : M33 p 6 = 0 := by rw [← hM34, m_s_s]
  have tv43 := tv28.kept (M' := M33) (by rw [← hM34]; exact m_s_a (by omega)) (by rw [← hM34]; exact m_s_a (by omega))
  have tv44 := tv29.kept (M' := M33) (by rw [← hM34]; exact m_s_a (by omega)) (by rw [← hM34]; exact m_s_a (by omega))
  have fr45 : fr (fun z => z = s ∨ (p ≤ z ∧ z ≤ p + 22)) M M33 := fun z hz => by
    have hz1 : ¬ (z = s ∨ (p ≤ z ∧ z ≤ p + 22)) := hz
    rw [← hM34]; exact (m_s_a (by omega)).trans (fr30 z hz)
  have rw46 : M33 (p + 3) = W := by rw [← hM34]; exact (m_s_a (of_ne0 (by decide))).trans rw31
  have tx47 : txs sh M33 (p + 4) 8 Y := tx32.kept (fun z hz1 hz2 => by rw [← hM34]; exact m_s_a (of_gt hz1 (by decide)))
  clear e21 e22 e23 e24 e25 e26 e27 fr30 rw31 tv28 tv29 tx32
  refine go_aload_n X d_Reader_begin_17 rfl rfl ?_
  refine go_iconst (v := 0) X d_Reader_begin_18 ?_
  refine go_put (x := 0) (v := vi 0) X f_Reader_73 h1 rfl d_Reader_begin_19 rfl rfl rfl ?_
  generalize hM49 : m_s M33 p 7 0 = M48
  have e50 : M48 p 0 = s := by rw [← hM49]; exact (m_s_n (fun q => absurd q.2 (by decide))).trans e35
  have e51 : M48 p 1 = w := by rw [← hM49]; exact (m_s_n (fun q => absurd q.2 (by decide))).trans e36
  have e52 : M48 p 2 = p + 1 := by rw [← hM49]; exact (m_s_n (fun q => absurd q.2 (by decide))).trans e37
  have e53 : M48 p 3 = p + 3 := by rw [← hM49]; exact (m_s_n (fun q => absurd q.2 (by decide))).trans e38
  have e54 : M48 p 4 = p + 4 := by rw [← hM49]; exact (m_s_n (fun q => absurd q.2 (by decide))).trans e39
  have e55 : M48 p 11 = p + 21 := by rw [← hM49]; exact (m_s_n (fun q => absurd q.2 (by decide))).trans e40
  have e56 : M48 p 5 = 0 := by rw [← hM49]; exact (m_s_n (fun q => absurd q.2 (by decide))).trans e41
  have e57 : M48 p 6 = 0 := by rw [← hM49]; exact (m_s_n (fun q => absurd q.2 (by decide))).trans e42
  have e58 : M48 p 7 = 0 := by rw [← hM49, m_s_s]
  have tv59 := tv43.kept (M' := M48) (by rw [← hM49]; exact m_s_a (by omega)) (by rw [← hM49]; exact m_s_a (by omega))
  have tv60 := tv44.kept (M' := M48) (by rw [← hM49]; exact m_s_a (by omega)) (by rw [← hM49]; exact m_s_a (by omega))
  have fr61 : fr (fun z => z = s ∨ (p ≤ z ∧ z ≤ p + 22)) M M48 := fun z hz => by
    have hz1 : ¬ (z = s ∨ (p ≤ z ∧ z ≤ p + 22)) := hz
    rw [← hM49]; exact (m_s_a (by omega)).trans (fr45 z hz)
  have rw62 : M48 (p + 3) = W := by rw [← hM49]; exact (m_s_a (of_ne0 (by decide))).trans rw46
  have tx63 : txs sh M48 (p + 4) 8 Y := tx47.kept (fun z hz1 hz2 => by rw [← hM49]; exact m_s_a (of_gt hz1 (by decide)))
  clear e35 e36 e37 e38 e39 e40 e41 e42 fr45 rw46 tv43 tv44 tx47
  refine go_vret X d_Reader_begin_22 rfl (by omega) (by omega) ?_
  have g5 := hshk.mv (sh' := sh) (M' := M48) (fun z q1 q2 => ⟨rfl, by rw [← hM49, m_s_a (by omega), ← hM34, m_s_a (by omega), ← hM20, m_s_a (by omega)]⟩) rfl
  exact ⟨rfl, rfl, rfl, g5, ⟨h1, h2, h3, h4, e50, e51, e52, e53, e54, e55, e56, (by omega), h13, h14, h15, h16, tv59, rw62, h19, tx63, tv60⟩, e57, e58, fr61⟩
set_option maxHeartbeats 4000000 in
set_option maxRecDepth 100000 in
theorem c_Page_lineCount (l : Launch) (D : va_G) {sh : s_S} {M : s_M} {sz p n : Int} {t : List Int} (h : pg0 sh M p n t) : Sp l D y_Page_lineCount prog_6_method_2_code 1 (some .int) 1 0 0 [vr p] sh M sz (pF (some (vi n)) sh M sz) := by
  have hh := h
  obtain ⟨h1, h2, h3, h4, h5, h6, h7, h8⟩ := h
  refine Sp.ofGo (own := "CiteForge$Page") (nm := "lineCount") (by decide) rfl rfl (Nat.le_of_ble_eq_true rfl) (lv := [(0, vr p)]) rfl ?_
  intro g X
  refine go_aload_n X d_Page_lineCount_0 rfl rfl ?_
  refine go_get (v := vi n) X f_Page_22 h1 rfl d_Page_lineCount_1 (congrArg (s_v .int) h5) ?_
  refine go_iret X d_Page_lineCount_4 rfl ?_ (by omega) (by omega) ?_
  · rfl
  · exact ⟨rfl, rfl, rfl, rfl⟩
set_option maxHeartbeats 4000000 in
set_option maxRecDepth 100000 in
theorem c_Page_lengthAtHand (l : Launch) (D : va_G) {sh : s_S} {M : s_M} {sz p n : Int} {t : List Int} (h : pg0 sh M p n t) : Sp l D y_Page_lengthAtHand prog_6_method_3_code 1 (some .int) 2 0 0 [vr p] sh M sz (pF (some (vi t.length)) sh M sz) := by
  have hh := h
  obtain ⟨h1, h2, h3, h4, h5, h6, h7, h8⟩ := h
  refine Sp.ofGo (own := "CiteForge$Page") (nm := "lengthAtHand") (by decide) rfl rfl (Nat.le_of_ble_eq_true rfl) (lv := [(0, vr p)]) rfl ?_
  intro g X
  refine go_aload_n X d_Page_lengthAtHand_0 rfl rfl ?_
  refine go_get (v := vr (p + 1)) X f_Page_14 h1 rfl d_Page_lengthAtHand_1 (s_vref h3 (by omega)) ?_
  refine go_cVf (st2 := [vi (t.length : Int)]) (r := []) X k_Page_26 (k_Text_size l D h8) h8.1.1 rfl rfl (by omega) (Nat.le_of_ble_eq_true rfl) d_Page_lengthAtHand_4 (by omega) (by omega) rfl ?_
  refine go_iret X d_Page_lengthAtHand_7 rfl ?_ (by omega) (by omega) ?_
  · rfl
  · exact ⟨rfl, rfl, rfl, rfl⟩
set_option maxHeartbeats 4000000 in
set_option maxRecDepth 100000 in
theorem c_Page_isKept (l : Launch) (D : va_G) {sh : s_S} {M : s_M} {sz p n : Int} {t : List Int} (h : pg0 sh M p n t) (hn : n < 2147483648) {i : Int} (hi : -2147483648 ≤ i ∧ i < 2147483648) : Sp l D y_Page_isKept prog_6_method_4_code 2 (some .boolean) 1 0 0 [vr p, vi i] sh M sz (pF (some (vi (s_b (decide (0 ≤ i ∧ i < n ∧ i < 24))))) sh M sz) := by
  have hh := h
  obtain ⟨h1, h2, h3, h4, h5, h6, h7, h8⟩ := h
  refine Sp.ofGo (own := "CiteForge$Page") (nm := "isKept") (by decide) rfl rfl (Nat.le_of_ble_eq_true rfl) (lv := [(0, vr p), (1, vi i)]) rfl ?_
  intro g X
  refine go_iload_n X d_Page_isKept_0 rfl rfl ?_
  refine go_if_lt (tgt := 22) X d_Page_isKept_1 rfl (by omega) (fun hq1 => ?_) (fun hq1 => ?_)
  · skip
    refine go_iconst (v := 0) X d_Page_isKept_22 ?_
    refine go_iret X d_Page_isKept_23 rfl ?_ (by omega) (by omega) ?_
    · rfl
    · refine ⟨?_, rfl, rfl, rfl⟩
      have hb : decide (0 ≤ i ∧ i < n ∧ i < 24) = false := by simp only [decide_eq_true_eq, decide_eq_false_iff_not]; omega
      rw [hb]; rfl
  · skip
    refine go_iload_n X d_Page_isKept_4 rfl rfl ?_
    refine go_aload_n X d_Page_isKept_5 rfl rfl ?_
    refine go_get (v := vi n) X f_Page_22 h1 rfl d_Page_isKept_6 (congrArg (s_v .int) h5) ?_
    refine go_icmp_ge (tgt := 22) X d_Page_isKept_9 rfl (by omega) (by omega) (fun hq2 => ?_) (fun hq2 => ?_)
    · skip
      refine go_iconst (v := 0) X d_Page_isKept_22 ?_
      refine go_iret X d_Page_isKept_23 rfl ?_ (by omega) (by omega) ?_
      · rfl
      · refine ⟨?_, rfl, rfl, rfl⟩
        have hb : decide (0 ≤ i ∧ i < n ∧ i < 24) = false := by simp only [decide_eq_true_eq, decide_eq_false_iff_not]; omega
        rw [hb]; rfl
    · skip
      refine go_iload_n X d_Page_isKept_12 rfl rfl ?_
      refine go_bipush (v := 24) X d_Page_isKept_13 (by decide) ?_
      refine go_icmp_ge (tgt := 22) X d_Page_isKept_15 rfl (by omega) (by omega) (fun hq3 => ?_) (fun hq3 => ?_)
      · skip
        refine go_iconst (v := 0) X d_Page_isKept_22 ?_
        refine go_iret X d_Page_isKept_23 rfl ?_ (by omega) (by omega) ?_
        · rfl
        · refine ⟨?_, rfl, rfl, rfl⟩
          have hb : decide (0 ≤ i ∧ i < n ∧ i < 24) = false := by simp only [decide_eq_true_eq, decide_eq_false_iff_not]; omega
          rw [hb]; rfl
      · skip
        refine go_iconst (v := 1) X d_Page_isKept_18 ?_
        refine go_goto (tgt := 23) X d_Page_isKept_19 rfl ?_
        refine go_iret X d_Page_isKept_23 rfl ?_ (by omega) (by omega) ?_
        · rfl
        · refine ⟨?_, rfl, rfl, rfl⟩
          have hb : decide (0 ≤ i ∧ i < n ∧ i < 24) = true := by simp only [decide_eq_true_eq, decide_eq_false_iff_not]; omega
          rw [hb]; rfl
