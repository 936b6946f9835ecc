/-- People with all its numbers: V the object's own, B and N where words begin and end, Lw which are low, Pb where parts begin -/
def ppl (sh : s_S) (M : s_M) (p : Int) (V B N Lw Pb : Int → Int) : Prop := pev sh M p ∧ M p = V ∧ M (p + 1) = B ∧ M (p + 2) = N ∧ M (p + 3) = Lw ∧ M (p + 4) = Pb
theorem ppl.mv {sh sh' : s_S} {M M' : s_M} {p : Int} {V B N Lw Pb : Int → Int} (h : ppl sh M p V B N Lw Pb) (hu : as_ p (p + 5) sh M sh' M') : ppl sh' M' p V B N Lw Pb := by
  obtain ⟨q1, q2, q3, q4, q5, q6⟩ := h
  exact ⟨q1.mv hu, (hu p (by omega) (by omega)).2.trans q2, (hu (p + 1) (by omega) (by omega)).2.trans q3, (hu (p + 2) (by omega) (by omega)).2.trans q4, (hu (p + 3) (by omega) (by omega)).2.trans q5, (hu (p + 4) (by omega) (by omega)).2.trans q6⟩
theorem pev.off {sh : s_S} {M M' : s_M} {p : Int} (h : pev sh M p) (e : M' p = M p) : pev sh M' p := by
  obtain ⟨q1, q2, q3, q4, q5, q6, q7, q8, q9, q10⟩ := h
  exact ⟨q1, q2, q3, q4, q5, by rw [e]; exact q6, by rw [e]; exact q7, by rw [e]; exact q8, by rw [e]; exact q9, q10⟩
theorem pev.put {sh : s_S} {M : s_M} {p j v : Int} (h : pev sh M p) (hj : j ≠ 2 ∧ j ≠ 3 ∧ j ≠ 4 ∧ j ≠ 6) : pev sh (m_s M p j v) p := by
  obtain ⟨q1, q2, q3, q4, q5, q6, q7, q8, q9, q10⟩ := h
  exact ⟨q1, q2, q3, q4, q5, (m_s_n (fun e => hj.1 e.2.symm)).trans q6, (m_s_n (fun e => hj.2.1 e.2.symm)).trans q7, (m_s_n (fun e => hj.2.2.1 e.2.symm)).trans q8, (m_s_n (fun e => hj.2.2.2 e.2.symm)).trans q9, q10⟩
set_option maxHeartbeats 4000000 in
set_option maxRecDepth 100000 in
theorem c_People_addWord (l : Launch) (D : va_G) {sh : s_S} {M : s_M} {sz p : Int} {V B N Lw Pb : Int → Int} (h : ppl sh M p V B N Lw Pb) {b e : Int} (hb : -2147483648 ≤ b ∧ b < 2147483648) (hw : 0 ≤ V 5 ∧ V 5 ≤ 60) : Sp l D y_People_addWord prog_7_method_8_code 3 none 1 0 0 [vr p, vi b, vi e] sh M sz (fun v' sh' M' sz' => v' = none ∧ sh' = sh ∧ sz' = sz ∧ ppl sh M' p (if 0 ≤ b ∧ V 5 < 60 then inc V 5 else V) (if 0 ≤ b ∧ V 5 < 60 then rset B (V 5) b else B) (if 0 ≤ b ∧ V 5 < 60 then rset N (V 5) e else N) Lw Pb ∧ fr (fun z => p ≤ z ∧ z ≤ p + 4) M M') := by
  have hp0 : 0 ≤ p := h.1.2.2.2.2.2.2.2.2.2
  refine Sp.ofGo (own := "CiteForge$People") (nm := "addWord") (by decide) rfl rfl (Nat.le_of_ble_eq_true rfl) (lv := [(0, vr p), (1, vi b), (2, vi e)]) rfl ?_
  intro g X
  refine go_iload_n X d_People_addWord_0 rfl rfl ?_
  refine go_if_lt (tgt := 43) X d_People_addWord_1 rfl (by omega) (fun hq1 => ?_) (fun hq1 => ?_)
  · skip
    refine go_vret X d_People_addWord_43 rfl (by omega) (by omega) ?_
    have g : ¬ (0 ≤ b ∧ V 5 < 60) := by omega
    rw [if_neg g, if_neg g, if_neg g]
    exact ⟨rfl, rfl, rfl, h, fun z _ => rfl⟩
  · skip
    refine go_aload_n X d_People_addWord_4 rfl rfl ?_
    refine go_get (v := vi (V 5)) X f_People_62 h.1.1 rfl d_People_addWord_5 (congrArg (s_v .int) (show M p 5 = V 5 by rw [h.2.1])) ?_
    refine go_bipush (v := 60) X d_People_addWord_8 (by decide) ?_
    refine go_icmp_ge (tgt := 43) X d_People_addWord_10 rfl (by omega) (by omega) (fun hq2 => ?_) (fun hq2 => ?_)
    · skip
      refine go_vret X d_People_addWord_43 rfl (by omega) (by omega) ?_
      have g : ¬ (0 ≤ b ∧ V 5 < 60) := by omega
      rw [if_neg g, if_neg g, if_neg g]
      exact ⟨rfl, rfl, rfl, h, fun z _ => rfl⟩
    · skip
      refine go_aload_n X d_People_addWord_13 rfl rfl ?_
      refine go_get (v := vr (p + 1)) X f_People_9 h.1.1 rfl d_People_addWord_14 (s_varr (h.1.2.2.2.2.2.1) (by omega)) ?_
      refine go_aload_n X d_People_addWord_17 rfl rfl ?_
      refine go_get (v := vi (V 5)) X f_People_62 h.1.1 rfl d_People_addWord_18 (congrArg (s_v .int) (show M p 5 = V 5 by rw [h.2.1])) ?_
      refine go_iload_n X d_People_addWord_21 rfl rfl ?_
      refine go_iast X h.1.2.1 (by omega) (by omega) d_People_addWord_22 ?_
      generalize hM4 : m_s M (p + 1) (V 5) b = M3
      have pe11 : pev sh M3 p := by rw [← hM4]; exact h.1.off (m_s_a (by omega))
      have rw5 : M3 p = V := by rw [← hM4]; exact (m_s_a (of_ne1 (by decide))).trans h.2.1
      have rw6 : M3 (p + 1) = rset B (V 5) b := by rw [← hM4]; exact row_set h.2.2.1
      have rw7 : M3 (p + 2) = N := by rw [← hM4]; exact (m_s_a (of_ne (by decide))).trans h.2.2.2.1
      have rw8 : M3 (p + 3) = Lw := by rw [← hM4]; exact (m_s_a (of_ne (by decide))).trans h.2.2.2.2.1
      have rw9 : M3 (p + 4) = Pb := by rw [← hM4]; exact (m_s_a (of_ne (by decide))).trans h.2.2.2.2.2
      have fr10 : fr (fun z => p ≤ z ∧ z ≤ p + 4) M M3 := fun z hz => by
        have hz1 : ¬ (p ≤ z ∧ z ≤ p + 4) := hz
        rw [← hM4]; exact (m_s_a (by omega))
      clear hM4
      refine go_aload_n X d_People_addWord_23 rfl rfl ?_
      refine go_get (v := vr (p + 2)) X f_People_15 h.1.1 rfl d_People_addWord_24 (s_varr (pe11.2.2.2.2.2.2.1) (by omega)) ?_
      refine go_aload_n X d_People_addWord_27 rfl rfl ?_
      refine go_get (v := vi (V 5)) X f_People_62 h.1.1 rfl d_People_addWord_28 (congrArg (s_v .int) (show M3 p 5 = V 5 by rw [rw5])) ?_
      refine go_iload_n X d_People_addWord_31 rfl rfl ?_
      refine go_iast X h.1.2.2.1 (by omega) (by omega) d_People_addWord_32 ?_
      generalize hM13 : m_s M3 (p + 2) (V 5) e = M12
      have pe20 : pev sh M12 p := by rw [← hM13]; exact pe11.off (m_s_a (by omega))
      have rw14 : M12 p = V := by rw [← hM13]; exact (m_s_a (of_ne1 (by decide))).trans rw5
      have rw15 : M12 (p + 1) = rset B (V 5) b := by rw [← hM13]; exact (m_s_a (of_ne (by decide))).trans rw6
      have rw16 : M12 (p + 2) = rset N (V 5) e := by rw [← hM13]; exact row_set rw7
      have rw17 : M12 (p + 3) = Lw := by rw [← hM13]; exact (m_s_a (of_ne (by decide))).trans rw8
      have rw18 : M12 (p + 4) = Pb := by rw [← hM13]; exact (m_s_a (of_ne (by decide))).trans rw9
      have fr19 : fr (fun z => p ≤ z ∧ z ≤ p + 4) M M12 := fun z hz => by
        have hz1 : ¬ (p ≤ z ∧ z ≤ p + 4) := hz
        rw [← hM13]; exact (m_s_a (by omega)).trans (fr10 z hz)
      clear fr10 rw5 rw6 rw7 rw8 rw9 hM13
      refine go_aload_n X d_People_addWord_33 rfl rfl ?_
      refine go_dup X d_People_addWord_34 rfl ?_
      refine go_get (v := vi (V 5)) X f_People_62 h.1.1 rfl d_People_addWord_35 (congrArg (s_v .int) (show M12 p 5 = V 5 by rw [rw14])) ?_
      refine go_iconst (v := 1) X d_People_addWord_38 ?_
      refine go_iadd X d_People_addWord_39 ?_
      refine go_put (x := ((V 5) + 1)) (v := vi ((V 5) + 1)) X f_People_62 h.1.1 rfl d_People_addWord_40 rfl rfl rfl ?_
      generalize hM22 : m_s M12 p 5 ((V 5) + 1) = M21
      have pe29 : pev sh M21 p := by rw [← hM22]; exact pe20.put (by decide)
      have rw23 : M21 p = inc V 5 := by rw [← hM22]; exact row_inc rw14
      have rw24 : M21 (p + 1) = rset B (V 5) b := by rw [← hM22]; exact (m_s_a (of_ne0 (by decide))).trans rw15
      have rw25 : M21 (p + 2) = rset N (V 5) e := by rw [← hM22]; exact (m_s_a (of_ne0 (by decide))).trans rw16
      have rw26 : M21 (p + 3) = Lw := by rw [← hM22]; exact (m_s_a (of_ne0 (by decide))).trans rw17
      have rw27 : M21 (p + 4) = Pb := by rw [← hM22]; exact (m_s_a (of_ne0 (by decide))).trans rw18
      have fr28 : fr (fun z => p ≤ z ∧ z ≤ p + 4) M M21 := fun z hz => by
        have hz1 : ¬ (p ≤ z ∧ z ≤ p + 4) := hz
        rw [← hM22]; exact (m_s_a (by omega)).trans (fr19 z hz)
      clear fr19 rw14 rw15 rw16 rw17 rw18 hM22
      refine go_vret X d_People_addWord_43 rfl (by omega) (by omega) ?_
      have g : 0 ≤ b ∧ V 5 < 60 := by omega
      rw [if_pos g, if_pos g, if_pos g]
      exact ⟨rfl, rfl, rfl, ⟨pe29, rw23, rw24, rw25, rw26, rw27⟩, fr28⟩
def aoL (w : Int) : Int := max (w - 1) 0
def aoF (Lw : Int → Int) (w : Int) : Int := low1 Lw (aoL w - 0).toNat 0
def aoE (Lw : Int → Int) (w : Int) : Int := if aoF Lw w < 0 then aoL w else aoF Lw w
def aoV (Lw : Int → Int) (w : Int) : Int := if aoF Lw w < 0 then aoL w else low2 Lw (aoL w).toNat + 1
/-- one part: first, von, last -/
def ao1 (V Lw : Int → Int) (w : Int) : Int → Int := rset (rset (rset (rset (rset (rset (rset (rset V 8 0) 9 (aoE Lw w)) 10 (aoE Lw w)) 11 (aoV Lw w)) 12 (aoV Lw w)) 13 w) 14 w) 15 w
/-- more parts -/
def ao2 (V Lw Pb : Int → Int) (w np : Int) : Int → Int := rset (rset (rset (rset (rset (rset (rset (rset V 10 0) 11 (low2 Lw (Pb 1 - 1).toNat + 1)) 12 (low2 Lw (Pb 1 - 1).toNat + 1)) 13 (Pb 1)) 14 (Pb 1)) 15 (Pb (np - 1))) 8 (Pb (np - 1))) 9 w
theorem low1_rng {W : Int → Int} : ∀ (m : Nat) (i : Int), low1 W m i = -1 ∨ (i ≤ low1 W m i ∧ low1 W m i < i + m)
  | 0, i => Or.inl rfl
  | m + 1, i => by
    unfold low1
    split
    · rcases low1_rng (W := W) m (i + 1) with h | h
      · exact Or.inl h
      · right; omega
    · right; omega
theorem low2_rng {W : Int → Int} : ∀ (m : Nat), -1 ≤ low2 W m ∧ low2 W m < m
  | 0 => ⟨Int.le_refl _, (by decide : (-1 : Int) < ((0 : Nat) : Int))⟩
  | m + 1 => by
    unfold low2
    split
    · have := low2_rng (W := W) m; omega
    · omega
set_option maxHeartbeats 4000000 in
set_option maxRecDepth 100000 in
theorem c_People_assignOnePart (l : Launch) (D : va_G) {sh : s_S} {M : s_M} {sz p : Int} {V B N Lw Pb : Int → Int} (h : ppl sh M p V B N Lw Pb) (hLr : ∀ i, 0 ≤ Lw i ∧ Lw i ≤ 1) (hw : 0 ≤ V 5 ∧ V 5 ≤ 60) : Sp l D y_People_assignOnePart prog_7_method_12_code 3 none 2 0 0 [vr p] sh M sz (fun v' sh' M' sz' => v' = none ∧ sh' = sh ∧ sz' = sz ∧ ppl sh M' p (ao1 V Lw (V 5)) B N Lw Pb ∧ fr (fun z => p ≤ z ∧ z ≤ p + 4) M M') := by
  have hp0 : 0 ≤ p := h.1.2.2.2.2.2.2.2.2.2
  refine Sp.ofGo (own := "CiteForge$People") (nm := "assignOnePart") (by decide) rfl rfl (Nat.le_of_ble_eq_true rfl) (lv := [(0, vr p)]) rfl ?_
  intro g X
  refine go_aload_n X d_People_assignOnePart_0 rfl rfl ?_
  refine go_get (v := vi (V 5)) X f_People_62 h.1.1 rfl d_People_assignOnePart_1 (congrArg (s_v .int) (show M p 5 = V 5 by rw [h.2.1])) ?_
  refine go_iconst (v := 1) X d_People_assignOnePart_4 ?_
  refine go_isub X d_People_assignOnePart_5 ?_
  refine go_iconst (v := 0) X d_People_assignOnePart_6 ?_
  refine go_mmax X w_mmax_People_91 w_mmax_s w_imath w_mmax_c (by omega) (by omega) (by omega) (by omega) (by omega) (Nat.le_of_ble_eq_true rfl) d_People_assignOnePart_7 ?_
  refine go_istore_n (lv' := [(1, vi (max ((V 5) - 1) 0)), (0, vr p)]) X d_People_assignOnePart_10 rfl (by decide) rfl ?_
  refine go_aload_n X d_People_assignOnePart_11 rfl rfl ?_
  refine go_iload_n X d_People_assignOnePart_12 rfl rfl ?_
  refine go_cVf (st2 := [vi (low1 Lw (max ((V 5) - 1) 0 - 0).toNat 0)]) (r := []) X k_People_97 (c_People_firstLow l D h.1 h.2.2.2.2.1 hLr (by omega)) h.1.1 rfl rfl (by omega) (Nat.le_of_ble_eq_true rfl) d_People_assignOnePart_13 (by omega) (by omega) rfl ?_
  have hl1 := low1_rng (W := Lw) (max ((V 5) - 1) 0 - 0).toNat 0
  refine go_istore_n (lv' := [(2, vi (low1 Lw (max ((V 5) - 1) 0 - 0).toNat 0)), (1, vi (max ((V 5) - 1) 0)), (0, vr p)]) X d_People_assignOnePart_16 rfl (by decide) rfl ?_
  refine go_aload_n X d_People_assignOnePart_17 rfl rfl ?_
  refine go_iconst (v := 0) X d_People_assignOnePart_18 ?_
  refine go_put (x := 0) (v := vi 0) X f_People_101 h.1.1 rfl d_People_assignOnePart_19 rfl rfl rfl ?_
  generalize hM3 : m_s M p 8 0 = M2
  have pe10 : pev sh M2 p := by rw [← hM3]; exact h.1.put (by decide)
  have rw4 : M2 p = rset V 8 0 := by rw [← hM3]; exact row_set h.2.1
  have rw5 : M2 (p + 1) = B := by rw [← hM3]; exact (m_s_a (of_ne0 (by decide))).trans h.2.2.1
  have rw6 : M2 (p + 2) = N := by rw [← hM3]; exact (m_s_a (of_ne0 (by decide))).trans h.2.2.2.1
  have rw7 : M2 (p + 3) = Lw := by rw [← hM3]; exact (m_s_a (of_ne0 (by decide))).trans h.2.2.2.2.1
  have rw8 : M2 (p + 4) = Pb := by rw [← hM3]; exact (m_s_a (of_ne0 (by decide))).trans h.2.2.2.2.2
  have fr9 : fr (fun z => p ≤ z ∧ z ≤ p + 4) M M2 := fun z hz => by
    have hz1 : ¬ (p ≤ z ∧ z ≤ p + 4) := hz
    rw [← hM3]; exact (m_s_a (by omega))
  clear hM3
  refine go_aload_n X d_People_assignOnePart_22 rfl rfl ?_
  refine go_iload_n X d_People_assignOnePart_23 rfl rfl ?_
  refine go_if_ge (tgt := 31) X d_People_assignOnePart_24 rfl (by omega) (fun hq11 => ?_) (fun hq11 => ?_)
  · skip
    refine go_iload_n X d_People_assignOnePart_31 rfl rfl ?_
    refine go_put (x := (low1 Lw (max ((V 5) - 1) 0 - 0).toNat 0)) (v := vi (low1 Lw (max ((V 5) - 1) 0 - 0).toNat 0)) X f_People_104 h.1.1 rfl d_People_assignOnePart_32 rfl rfl rfl ?_
    generalize hM13 : m_s M2 p 9 (low1 Lw (max ((V 5) - 1) 0 - 0).toNat 0) = M12
    have pe20 : pev sh M12 p := by rw [← hM13]; exact pe10.put (by decide)
    have rw14 : M12 p = rset (rset V 8 0) 9 (low1 Lw (max ((V 5) - 1) 0 - 0).toNat 0) := by rw [← hM13]; exact row_set rw4
    have rw15 : M12 (p + 1) = B := by rw [← hM13]; exact (m_s_a (of_ne0 (by decide))).trans rw5
    have rw16 : M12 (p + 2) = N := by rw [← hM13]; exact (m_s_a (of_ne0 (by decide))).trans rw6
    have rw17 : M12 (p + 3) = Lw := by rw [← hM13]; exact (m_s_a (of_ne0 (by decide))).trans rw7
    have rw18 : M12 (p + 4) = Pb := by rw [← hM13]; exact (m_s_a (of_ne0 (by decide))).trans rw8
    have fr19 : fr (fun z => p ≤ z ∧ z ≤ p + 4) M M12 := fun z hz => by
      have hz1 : ¬ (p ≤ z ∧ z ≤ p + 4) := hz
      rw [← hM13]; exact (m_s_a (by omega)).trans (fr9 z hz)
    clear fr9 rw4 rw5 rw6 rw7 rw8 hM13
    refine go_aload_n X d_People_assignOnePart_35 rfl rfl ?_
    refine go_aload_n X d_People_assignOnePart_36 rfl rfl ?_
    refine go_get (v := vi (low1 Lw (max ((V 5) - 1) 0 - 0).toNat 0)) X f_People_104 h.1.1 rfl d_People_assignOnePart_37 (congrArg (s_v .int) (show M12 p 9 = low1 Lw (max ((V 5) - 1) 0 - 0).toNat 0 by rw [rw14]; simp [rset, inc])) ?_
    refine go_put (x := (low1 Lw (max ((V 5) - 1) 0 - 0).toNat 0)) (v := vi (low1 Lw (max ((V 5) - 1) 0 - 0).toNat 0)) X f_People_107 h.1.1 rfl d_People_assignOnePart_40 rfl rfl rfl ?_
    generalize hM22 : m_s M12 p 10 (low1 Lw (max ((V 5) - 1) 0 - 0).toNat 0) = M21
    have pe29 : pev sh M21 p := by rw [← hM22]; exact pe20.put (by decide)
    have rw23 : M21 p = rset (rset (rset V 8 0) 9 (low1 Lw (max ((V 5) - 1) 0 - 0).toNat 0)) 10 (low1 Lw (max ((V 5) - 1) 0 - 0).toNat 0) := by rw [← hM22]; exact row_set rw14
    have rw24 : M21 (p + 1) = B := by rw [← hM22]; exact (m_s_a (of_ne0 (by decide))).trans rw15
    have rw25 : M21 (p + 2) = N := by rw [← hM22]; exact (m_s_a (of_ne0 (by decide))).trans rw16
    have rw26 : M21 (p + 3) = Lw := by rw [← hM22]; exact (m_s_a (of_ne0 (by decide))).trans rw17
    have rw27 : M21 (p + 4) = Pb := by rw [← hM22]; exact (m_s_a (of_ne0 (by decide))).trans rw18
    have fr28 : fr (fun z => p ≤ z ∧ z ≤ p + 4) M M21 := fun z hz => by
      have hz1 : ¬ (p ≤ z ∧ z ≤ p + 4) := hz
      rw [← hM22]; exact (m_s_a (by omega)).trans (fr19 z hz)
    clear fr19 rw14 rw15 rw16 rw17 rw18 hM22
    refine go_aload_n X d_People_assignOnePart_43 rfl rfl ?_
    refine go_iload_n X d_People_assignOnePart_44 rfl rfl ?_
    refine go_if_ge (tgt := 52) X d_People_assignOnePart_45 rfl (by omega) (fun hq30 => ?_) (fun hq30 => ?_)
    · skip
      refine go_aload_n X d_People_assignOnePart_52 rfl rfl ?_
      refine go_iload_n X d_People_assignOnePart_53 rfl rfl ?_
      refine go_cVf (st2 := [vi (low2 Lw (max ((V 5) - 1) 0).toNat), vr p]) (r := [vr p]) X k_People_110 (c_People_lastLow l D pe29 rw26 hLr (by omega)) h.1.1 rfl rfl (by omega) (Nat.le_of_ble_eq_true rfl) d_People_assignOnePart_54 (by omega) (by omega) rfl ?_
      have hl31 := low2_rng (W := Lw) (max ((V 5) - 1) 0).toNat
      refine go_iconst (v := 1) X d_People_assignOnePart_57 ?_
      refine go_iadd X d_People_assignOnePart_58 ?_
      refine go_put (x := ((low2 Lw (max ((V 5) - 1) 0).toNat) + 1)) (v := vi ((low2 Lw (max ((V 5) - 1) 0).toNat) + 1)) X f_People_113 h.1.1 rfl d_People_assignOnePart_59 rfl rfl rfl ?_
      generalize hM33 : m_s M21 p 11 ((low2 Lw (max ((V 5) - 1) 0).toNat) + 1) = M32
      have pe40 : pev sh M32 p := by rw [← hM33]; exact pe29.put (by decide)
      have rw34 : M32 p = rset (rset (rset (rset V 8 0) 9 (low1 Lw (max ((V 5) - 1) 0 - 0).toNat 0)) 10 (low1 Lw (max ((V 5) - 1) 0 - 0).toNat 0)) 11 ((low2 Lw (max ((V 5) - 1) 0).toNat) + 1) := by rw [← hM33]; exact row_set rw23
      have rw35 : M32 (p + 1) = B := by rw [← hM33]; exact (m_s_a (of_ne0 (by decide))).trans rw24
      have rw36 : M32 (p + 2) = N := by rw [← hM33]; exact (m_s_a (of_ne0 (by decide))).trans rw25
      have rw37 : M32 (p + 3) = Lw := by rw [← hM33]; exact (m_s_a (of_ne0 (by decide))).trans rw26
      have rw38 : M32 (p + 4) = Pb := by rw [← hM33]; exact (m_s_a (of_ne0 (by decide))).trans rw27
      have fr39 : fr (fun z => p ≤ z ∧ z ≤ p + 4) M M32 := fun z hz => by
        have hz1 : ¬ (p ≤ z ∧ z ≤ p + 4) := hz
        rw [← hM33]; exact (m_s_a (by omega)).trans (fr28 z hz)
      clear fr28 rw23 rw24 rw25 rw26 rw27 hM33
      refine go_aload_n X d_People_assignOnePart_62 rfl rfl ?_
      refine go_aload_n X d_People_assignOnePart_63 rfl rfl ?_
      refine go_get (v := vi ((low2 Lw (max ((V 5) - 1) 0).toNat) + 1)) X f_People_113 h.1.1 rfl d_People_assignOnePart_64 (congrArg (s_v .int) (show M32 p 11 = (low2 Lw (max ((V 5) - 1) 0).toNat) + 1 by rw [rw34]; simp [rset, inc])) ?_
      refine go_put (x := ((low2 Lw (max ((V 5) - 1) 0).toNat) + 1)) (v := vi ((low2 Lw (max ((V 5) - 1) 0).toNat) + 1)) X f_People_116 h.1.1 rfl d_People_assignOnePart_67 rfl rfl rfl ?_
      generalize hM42 : m_s M32 p 12 ((low2 Lw (max ((V 5) - 1) 0).toNat) + 1) = M41
      have pe49 : pev sh M41 p := by rw [← hM42]; exact pe40.put (by decide)
      have rw43 : M41 p = rset (rset (rset (rset (rset V 8 0) 9 (low1 Lw (max ((V 5) - 1) 0 - 0).toNat 0)) 10 (low1 Lw (max ((V 5) - 1) 0 - 0).toNat 0)) 11 ((low2 Lw (max ((V 5) - 1) 0).toNat) + 1)) 12 ((low2 Lw (max ((V 5) - 1) 0).toNat) + 1) := by rw [← hM42]; exact row_set rw34
      have rw44 : M41 (p + 1) = B := by rw [← hM42]; exact (m_s_a (of_ne0 (by decide))).trans rw35
      have rw45 : M41 (p + 2) = N := by rw [← hM42]; exact (m_s_a (of_ne0 (by decide))).trans rw36
      have rw46 : M41 (p + 3) = Lw := by rw [← hM42]; exact (m_s_a (of_ne0 (by decide))).trans rw37
      have rw47 : M41 (p + 4) = Pb := by rw [← hM42]; exact (m_s_a (of_ne0 (by decide))).trans rw38
      have fr48 : fr (fun z => p ≤ z ∧ z ≤ p + 4) M M41 := fun z hz => by
        have hz1 : ¬ (p ≤ z ∧ z ≤ p + 4) := hz
        rw [← hM42]; exact (m_s_a (by omega)).trans (fr39 z hz)
      clear fr39 rw34 rw35 rw36 rw37 rw38 hM42
      refine go_aload_n X d_People_assignOnePart_70 rfl rfl ?_
      refine go_aload_n X d_People_assignOnePart_71 rfl rfl ?_
      refine go_get (v := vi (V 5)) X f_People_62 h.1.1 rfl d_People_assignOnePart_72 (congrArg (s_v .int) (show M41 p 5 = V 5 by rw [rw43]; simp [rset, inc])) ?_
      refine go_put (x := (V 5)) (v := vi (V 5)) X f_People_119 h.1.1 rfl d_People_assignOnePart_75 rfl rfl rfl ?_
      generalize hM51 : m_s M41 p 13 (V 5) = M50
      have pe58 : pev sh M50 p := by rw [← hM51]; exact pe49.put (by decide)
      have rw52 : M50 p = rset (rset (rset (rset (rset (rset V 8 0) 9 (low1 Lw (max ((V 5) - 1) 0 - 0).toNat 0)) 10 (low1 Lw (max ((V 5) - 1) 0 - 0).toNat 0)) 11 ((low2 Lw (max ((V 5) - 1) 0).toNat) + 1)) 12 ((low2 Lw (max ((V 5) - 1) 0).toNat) + 1)) 13 (V 5) := by rw [← hM51]; exact row_set rw43
      have rw53 : M50 (p + 1) = B := by rw [← hM51]; exact (m_s_a (of_ne0 (by decide))).trans rw44
      have rw54 : M50 (p + 2) = N := by rw [← hM51]; exact (m_s_a (of_ne0 (by decide))).trans rw45
      have rw55 : M50 (p + 3) = Lw := by rw [← hM51]; exact (m_s_a (of_ne0 (by decide))).trans rw46
      have rw56 : M50 (p + 4) = Pb := by rw [← hM51]; exact (m_s_a (of_ne0 (by decide))).trans rw47
      have fr57 : fr (fun z => p ≤ z ∧ z ≤ p + 4) M M50 := fun z hz => by
        have hz1 : ¬ (p ≤ z ∧ z ≤ p + 4) := hz
        rw [← hM51]; exact (m_s_a (by omega)).trans (fr48 z hz)
      clear fr48 rw43 rw44 rw45 rw46 rw47 hM51
      refine go_aload_n X d_People_assignOnePart_78 rfl rfl ?_
      refine go_aload_n X d_People_assignOnePart_79 rfl rfl ?_
      refine go_get (v := vi (V 5)) X f_People_62 h.1.1 rfl d_People_assignOnePart_80 (congrArg (s_v .int) (show M50 p 5 = V 5 by rw [rw52]; simp [rset, inc])) ?_
      refine go_put (x := (V 5)) (v := vi (V 5)) X f_People_122 h.1.1 rfl d_People_assignOnePart_83 rfl rfl rfl ?_
      generalize hM60 : m_s M50 p 14 (V 5) = M59
      have pe67 : pev sh M59 p := by rw [← hM60]; exact pe58.put (by decide)
      have rw61 : M59 p = rset (rset (rset (rset (rset (rset (rset V 8 0) 9 (low1 Lw (max ((V 5) - 1) 0 - 0).toNat 0)) 10 (low1 Lw (max ((V 5) - 1) 0 - 0).toNat 0)) 11 ((low2 Lw (max ((V 5) - 1) 0).toNat) + 1)) 12 ((low2 Lw (max ((V 5) - 1) 0).toNat) + 1)) 13 (V 5)) 14 (V 5) := by rw [← hM60]; exact row_set rw52
      have rw62 : M59 (p + 1) = B := by rw [← hM60]; exact (m_s_a (of_ne0 (by decide))).trans rw53
      have rw63 : M59 (p + 2) = N := by rw [← hM60]; exact (m_s_a (of_ne0 (by decide))).trans rw54
      have rw64 : M59 (p + 3) = Lw := by rw [← hM60]; exact (m_s_a (of_ne0 (by decide))).trans rw55
      have rw65 : M59 (p + 4) = Pb := by rw [← hM60]; exact (m_s_a (of_ne0 (by decide))).trans rw56
      have fr66 : fr (fun z => p ≤ z ∧ z ≤ p + 4) M M59 := fun z hz => by
        have hz1 : ¬ (p ≤ z ∧ z ≤ p + 4) := hz
        rw [← hM60]; exact (m_s_a (by omega)).trans (fr57 z hz)
      clear fr57 rw52 rw53 rw54 rw55 rw56 hM60
      refine go_aload_n X d_People_assignOnePart_86 rfl rfl ?_
      refine go_aload_n X d_People_assignOnePart_87 rfl rfl ?_
      refine go_get (v := vi (V 5)) X f_People_62 h.1.1 rfl d_People_assignOnePart_88 (congrArg (s_v .int) (show M59 p 5 = V 5 by rw [rw61]; simp [rset, inc])) ?_
      refine go_put (x := (V 5)) (v := vi (V 5)) X f_People_125 h.1.1 rfl d_People_assignOnePart_91 rfl rfl rfl ?_
      generalize hM69 : m_s M59 p 15 (V 5) = M68
      have pe76 : pev sh M68 p := by rw [← hM69]; exact pe67.put (by decide)
      have rw70 : M68 p = rset (rset (rset (rset (rset (rset (rset (rset V 8 0) 9 (low1 Lw (max ((V 5) - 1) 0 - 0).toNat 0)) 10 (low1 Lw (max ((V 5) - 1) 0 - 0).toNat 0)) 11 ((low2 Lw (max ((V 5) - 1) 0).toNat) + 1)) 12 ((low2 Lw (max ((V 5) - 1) 0).toNat) + 1)) 13 (V 5)) 14 (V 5)) 15 (V 5) := by rw [← hM69]; exact row_set rw61
      have rw71 : M68 (p + 1) = B := by rw [← hM69]; exact (m_s_a (of_ne0 (by decide))).trans rw62
      have rw72 : M68 (p + 2) = N := by rw [← hM69]; exact (m_s_a (of_ne0 (by decide))).trans rw63
      have rw73 : M68 (p + 3) = Lw := by rw [← hM69]; exact (m_s_a (of_ne0 (by decide))).trans rw64
      have rw74 : M68 (p + 4) = Pb := by rw [← hM69]; exact (m_s_a (of_ne0 (by decide))).trans rw65
      have fr75 : fr (fun z => p ≤ z ∧ z ≤ p + 4) M M68 := fun z hz => by
        have hz1 : ¬ (p ≤ z ∧ z ≤ p + 4) := hz
        rw [← hM69]; exact (m_s_a (by omega)).trans (fr66 z hz)
      clear fr66 rw61 rw62 rw63 rw64 rw65 hM69
      refine go_vret X d_People_assignOnePart_94 rfl (by omega) (by omega) ?_
      have a0 : aoL (V 5) = max (V 5 - 1) 0 := rfl
      have a1 : aoE Lw (V 5) = low1 Lw (max (V 5 - 1) 0 - 0).toNat 0 := if_neg (by show ¬ low1 Lw (max (V 5 - 1) 0 - 0).toNat 0 < 0; omega)
      have a2 : aoV Lw (V 5) = low2 Lw (max (V 5 - 1) 0).toNat + 1 := if_neg (by show ¬ low1 Lw (max (V 5 - 1) 0 - 0).toNat 0 < 0; omega)
      have hV : M68 p = ao1 V Lw (V 5) := by
        rw [rw70]
        unfold ao1
        rw [a1, a2]
      exact ⟨rfl, rfl, rfl, ⟨pe76, hV, rw71, rw72, rw73, rw74⟩, fr75⟩
    · skip
      refine go_iload_n X d_People_assignOnePart_48 rfl rfl ?_
      refine go_goto (tgt := 59) X d_People_assignOnePart_49 rfl ?_
      refine go_put (x := (max ((V 5) - 1) 0)) (v := vi (max ((V 5) - 1) 0)) X f_People_113 h.1.1 rfl d_People_assignOnePart_59 rfl rfl rfl ?_
      generalize hM78 : m_s M21 p 11 (max ((V 5) - 1) 0) = M77
      have pe85 : pev sh M77 p := by rw [← hM78]; exact pe29.put (by decide)
      have rw79 : M77 p = rset (rset (rset (rset V 8 0) 9 (low1 Lw (max ((V 5) - 1) 0 - 0).toNat 0)) 10 (low1 Lw (max ((V 5) - 1) 0 - 0).toNat 0)) 11 (max ((V 5) - 1) 0) := by rw [← hM78]; exact row_set rw23
      have rw80 : M77 (p + 1) = B := by rw [← hM78]; exact (m_s_a (of_ne0 (by decide))).trans rw24
      have rw81 : M77 (p + 2) = N := by rw [← hM78]; exact (m_s_a (of_ne0 (by decide))).trans rw25
      have rw82 : M77 (p + 3) = Lw := by rw [← hM78]; exact (m_s_a (of_ne0 (by decide))).trans rw26
      have rw83 : M77 (p + 4) = Pb := by rw [← hM78]; exact (m_s_a (of_ne0 (by decide))).trans rw27
      have fr84 : fr (fun z => p ≤ z ∧ z ≤ p + 4) M M77 := fun z hz => by
        have hz1 : ¬ (p ≤ z ∧ z ≤ p + 4) := hz
        rw [← hM78]; exact (m_s_a (by omega)).trans (fr28 z hz)
      clear fr28 rw23 rw24 rw25 rw26 rw27 hM78
      refine go_aload_n X d_People_assignOnePart_62 rfl rfl ?_
      refine go_aload_n X d_People_assignOnePart_63 rfl rfl ?_
      refine go_get (v := vi (max ((V 5) - 1) 0)) X f_People_113 h.1.1 rfl d_People_assignOnePart_64 (congrArg (s_v .int) (show M77 p 11 = max ((V 5) - 1) 0 by rw [rw79]; simp [rset, inc])) ?_
      refine go_put (x := (max ((V 5) - 1) 0)) (v := vi (max ((V 5) - 1) 0)) X f_People_116 h.1.1 rfl d_People_assignOnePart_67 rfl rfl rfl ?_
      generalize hM87 : m_s M77 p 12 (max ((V 5) - 1) 0) = M86
      have pe94 : pev sh M86 p := by rw [← hM87]; exact pe85.put (by decide)
      have rw88 : M86 p = rset (rset (rset (rset (rset V 8 0) 9 (low1 Lw (max ((V 5) - 1) 0 - 0).toNat 0)) 10 (low1 Lw (max ((V 5) - 1) 0 - 0).toNat 0)) 11 (max ((V 5) - 1) 0)) 12 (max ((V 5) - 1) 0) := by rw [← hM87]; exact row_set rw79
      have rw89 : M86 (p + 1) = B := by rw [← hM87]; exact (m_s_a (of_ne0 (by decide))).trans rw80
      have rw90 : M86 (p + 2) = N := by rw [← hM87]; exact (m_s_a (of_ne0 (by decide))).trans rw81
      have rw91 : M86 (p + 3) = Lw := by rw [← hM87]; exact (m_s_a (of_ne0 (by decide))).trans rw82
      have rw92 : M86 (p + 4) = Pb := by rw [← hM87]; exact (m_s_a (of_ne0 (by decide))).trans rw83
      have fr93 : fr (fun z => p ≤ z ∧ z ≤ p + 4) M M86 := fun z hz => by
        have hz1 : ¬ (p ≤ z ∧ z ≤ p + 4) := hz
        rw [← hM87]; exact (m_s_a (by omega)).trans (fr84 z hz)
      clear fr84 rw79 rw80 rw81 rw82 rw83 hM87
      refine go_aload_n X d_People_assignOnePart_70 rfl rfl ?_
      refine go_aload_n X d_People_assignOnePart_71 rfl rfl ?_
      refine go_get (v := vi (V 5)) X f_People_62 h.1.1 rfl d_People_assignOnePart_72 (congrArg (s_v .int) (show M86 p 5 = V 5 by rw [rw88]; simp [rset, inc])) ?_
      refine go_put (x := (V 5)) (v := vi (V 5)) X f_People_119 h.1.1 rfl d_People_assignOnePart_75 rfl rfl rfl ?_
      generalize hM96 : m_s M86 p 13 (V 5) = M95
      have pe103 : pev sh M95 p := by rw [← hM96]; exact pe94.put (by decide)
      have rw97 : M95 p = rset (rset (rset (rset (rset (rset V 8 0) 9 (low1 Lw (max ((V 5) - 1) 0 - 0).toNat 0)) 10 (low1 Lw (max ((V 5) - 1) 0 - 0).toNat 0)) 11 (max ((V 5) - 1) 0)) 12 (max ((V 5) - 1) 0)) 13 (V 5) := by rw [← hM96]; exact row_set rw88
      have rw98 : M95 (p + 1) = B := by rw [← hM96]; exact (m_s_a (of_ne0 (by decide))).trans rw89
      have rw99 : M95 (p + 2) = N := by rw [← hM96]; exact (m_s_a (of_ne0 (by decide))).trans rw90
      have rw100 : M95 (p + 3) = Lw := by rw [← hM96]; exact (m_s_a (of_ne0 (by decide))).trans rw91
      have rw101 : M95 (p + 4) = Pb := by rw [← hM96]; exact (m_s_a (of_ne0 (by decide))).trans rw92
      have fr102 : fr (fun z => p ≤ z ∧ z ≤ p + 4) M M95 := fun z hz => by
        have hz1 : ¬ (p ≤ z ∧ z ≤ p + 4) := hz
        rw [← hM96]; exact (m_s_a (by omega)).trans (fr93 z hz)
      clear fr93 rw88 rw89 rw90 rw91 rw92 hM96
      refine go_aload_n X d_People_assignOnePart_78 rfl rfl ?_
      refine go_aload_n X d_People_assignOnePart_79 rfl rfl ?_
      refine go_get (v := vi (V 5)) X f_People_62 h.1.1 rfl d_People_assignOnePart_80 (congrArg (s_v .int) (show M95 p 5 = V 5 by rw [rw97]; simp [rset, inc])) ?_
      refine go_put (x := (V 5)) (v := vi (V 5)) X f_People_122 h.1.1 rfl d_People_assignOnePart_83 rfl rfl rfl ?_
      generalize hM105 : m_s M95 p 14 (V 5) = M104
      have pe112 : pev sh M104 p := by rw [← hM105]; exact pe103.put (by decide)
      have rw106 : M104 p = rset (rset (rset (rset (rset (rset (rset V 8 0) 9 (low1 Lw (max ((V 5) - 1) 0 - 0).toNat 0)) 10 (low1 Lw (max ((V 5) - 1) 0 - 0).toNat 0)) 11 (max ((V 5) - 1) 0)) 12 (max ((V 5) - 1) 0)) 13 (V 5)) 14 (V 5) := by rw [← hM105]; exact row_set rw97
      have rw107 : M104 (p + 1) = B := by rw [← hM105]; exact (m_s_a (of_ne0 (by decide))).trans rw98
      have rw108 : M104 (p + 2) = N := by rw [← hM105]; exact (m_s_a (of_ne0 (by decide))).trans rw99
      have rw109 : M104 (p + 3) = Lw := by rw [← hM105]; exact (m_s_a (of_ne0 (by decide))).trans rw100
      have rw110 : M104 (p + 4) = Pb := by rw [← hM105]; exact (m_s_a (of_ne0 (by decide))).trans rw101
      have fr111 : fr (fun z => p ≤ z ∧ z ≤ p + 4) M M104 := fun z hz => by
        have hz1 : ¬ (p ≤ z ∧ z ≤ p + 4) := hz
        rw [← hM105]; exact (m_s_a (by omega)).trans (fr102 z hz)
      clear fr102 rw100 rw101 rw97 rw98 rw99 hM105
      refine go_aload_n X d_People_assignOnePart_86 rfl rfl ?_
      refine go_aload_n X d_People_assignOnePart_87 rfl rfl ?_
      refine go_get (v := vi (V 5)) X f_People_62 h.1.1 rfl d_People_assignOnePart_88 (congrArg (s_v .int) (show M104 p 5 = V 5 by rw [rw106]; simp [rset, inc])) ?_
      refine go_put (x := (V 5)) (v := vi (V 5)) X f_People_125 h.1.1 rfl d_People_assignOnePart_91 rfl rfl rfl ?_
      generalize hM114 : m_s M104 p 15 (V 5) = M113
      have pe121 : pev sh M113 p := by rw [← hM114]; exact pe112.put (by decide)
      have rw115 : M113 p = rset (rset (rset (rset (rset (rset (rset (rset V 8 0) 9 (low1 Lw (max ((V 5) - 1) 0 - 0).toNat 0)) 10 (low1 Lw (max ((V 5) - 1) 0 - 0).toNat 0)) 11 (max ((V 5) - 1) 0)) 12 (max ((V 5) - 1) 0)) 13 (V 5)) 14 (V 5)) 15 (V 5) := by rw [← hM114]; exact row_set rw106
      have rw116 : M113 (p + 1) = B := by rw [← hM114]; exact (m_s_a (of_ne0 (by decide))).trans rw107
      have rw117 : M113 (p + 2) = N := by rw [← hM114]; exact (m_s_a (of_ne0 (by decide))).trans rw108
      have rw118 : M113 (p + 3) = Lw := by rw [← hM114]; exact (m_s_a (of_ne0 (by decide))).trans rw109
      have rw119 : M113 (p + 4) = Pb := by rw [← hM114]; exact (m_s_a (of_ne0 (by decide))).trans rw110
      have fr120 : fr (fun z => p ≤ z ∧ z ≤ p + 4) M M113 := fun z hz => by
        have hz1 : ¬ (p ≤ z ∧ z ≤ p + 4) := hz
        rw [← hM114]; exact (m_s_a (by omega)).trans (fr111 z hz)
      clear fr111 rw106 rw107 rw108 rw109 rw110 hM114
      refine go_vret X d_People_assignOnePart_94 rfl (by omega) (by omega) ?_
      exfalso
      omega
  · skip
    refine go_iload_n X d_People_assignOnePart_27 rfl rfl ?_
    refine go_goto (tgt := 32) X d_People_assignOnePart_28 rfl ?_
    refine go_put (x := (max ((V 5) - 1) 0)) (v := vi (max ((V 5) - 1) 0)) X f_People_104 h.1.1 rfl d_People_assignOnePart_32 rfl rfl rfl ?_
    generalize hM123 : m_s M2 p 9 (max ((V 5) - 1) 0) = M122
    have pe130 : pev sh M122 p := by rw [← hM123]; exact pe10.put (by decide)
    have rw124 : M122 p = rset (rset V 8 0) 9 (max ((V 5) - 1) 0) := by rw [← hM123]; exact row_set rw4
    have rw125 : M122 (p + 1) = B := by rw [← hM123]; exact (m_s_a (of_ne0 (by decide))).trans rw5
    have rw126 : M122 (p + 2) = N := by rw [← hM123]; exact (m_s_a (of_ne0 (by decide))).trans rw6
    have rw127 : M122 (p + 3) = Lw := by rw [← hM123]; exact (m_s_a (of_ne0 (by decide))).trans rw7
    have rw128 : M122 (p + 4) = Pb := by rw [← hM123]; exact (m_s_a (of_ne0 (by decide))).trans rw8
    have fr129 : fr (fun z => p ≤ z ∧ z ≤ p + 4) M M122 := fun z hz => by
      have hz1 : ¬ (p ≤ z ∧ z ≤ p + 4) := hz
      rw [← hM123]; exact (m_s_a (by omega)).trans (fr9 z hz)
    clear fr9 rw4 rw5 rw6 rw7 rw8 hM123
    refine go_aload_n X d_People_assignOnePart_35 rfl rfl ?_
    refine go_aload_n X d_People_assignOnePart_36 rfl rfl ?_
    refine go_get (v := vi (max ((V 5) - 1) 0)) X f_People_104 h.1.1 rfl d_People_assignOnePart_37 (congrArg (s_v .int) (show M122 p 9 = max ((V 5) - 1) 0 by rw [rw124]; simp [rset, inc])) ?_
    refine go_put (x := (max ((V 5) - 1) 0)) (v := vi (max ((V 5) - 1) 0)) X f_People_107 h.1.1 rfl d_People_assignOnePart_40 rfl rfl rfl ?_
    generalize hM132 : m_s M122 p 10 (max ((V 5) - 1) 0) = M131
    have pe139 : pev sh M131 p := by rw [← hM132]; exact pe130.put (by decide)
    have rw133 : M131 p = rset (rset (rset V 8 0) 9 (max ((V 5) - 1) 0)) 10 (max ((V 5) - 1) 0) := by rw [← hM132]; exact row_set rw124
    have rw134 : M131 (p + 1) = B := by rw [← hM132]; exact (m_s_a (of_ne0 (by decide))).trans rw125
    have rw135 : M131 (p + 2) = N := by rw [← hM132]; exact (m_s_a (of_ne0 (by decide))).trans rw126
    have rw136 : M131 (p + 3) = Lw := by rw [← hM132]; exact (m_s_a (of_ne0 (by decide))).trans rw127
    have rw137 : M131 (p + 4) = Pb := by rw [← hM132]; exact (m_s_a (of_ne0 (by decide))).trans rw128
    have fr138 : fr (fun z => p ≤ z ∧ z ≤ p + 4) M M131 := fun z hz => by
      have hz1 : ¬ (p ≤ z ∧ z ≤ p + 4) := hz
      rw [← hM132]; exact (m_s_a (by omega)).trans (fr129 z hz)
    clear fr129 rw124 rw125 rw126 rw127 rw128 hM132
    refine go_aload_n X d_People_assignOnePart_43 rfl rfl ?_
    refine go_iload_n X d_People_assignOnePart_44 rfl rfl ?_
    refine go_if_ge (tgt := 52) X d_People_assignOnePart_45 rfl (by omega) (fun hq140 => ?_) (fun hq140 => ?_)
    · skip
      refine go_aload_n X d_People_assignOnePart_52 rfl rfl ?_
      refine go_iload_n X d_People_assignOnePart_53 rfl rfl ?_
      refine go_cVf (st2 := [vi (low2 Lw (max ((V 5) - 1) 0).toNat), vr p]) (r := [vr p]) X k_People_110 (c_People_lastLow l D pe139 rw136 hLr (by omega)) h.1.1 rfl rfl (by omega) (Nat.le_of_ble_eq_true rfl) d_People_assignOnePart_54 (by omega) (by omega) rfl ?_
      have hl141 := low2_rng (W := Lw) (max ((V 5) - 1) 0).toNat
      refine go_iconst (v := 1) X d_People_assignOnePart_57 ?_
      refine go_iadd X d_People_assignOnePart_58 ?_
      refine go_put (x := ((low2 Lw (max ((V 5) - 1) 0).toNat) + 1)) (v := vi ((low2 Lw (max ((V 5) - 1) 0).toNat) + 1)) X f_People_113 h.1.1 rfl d_People_assignOnePart_59 rfl rfl rfl ?_
      generalize hM143 : m_s M131 p 11 ((low2 Lw (max ((V 5) - 1) 0).toNat) + 1) = M142
      have pe150 : pev sh M142 p := by rw [← hM143]; exact pe139.put (by decide)
      have rw144 : M142 p = rset (rset (rset (rset V 8 0) 9 (max ((V 5) - 1) 0)) 10 (max ((V 5) - 1) 0)) 11 ((low2 Lw (max ((V 5) - 1) 0).toNat) + 1) := by rw [← hM143]; exact row_set rw133
      have rw145 : M142 (p + 1) = B := by rw [← hM143]; exact (m_s_a (of_ne0 (by decide))).trans rw134
      have rw146 : M142 (p + 2) = N := by rw [← hM143]; exact (m_s_a (of_ne0 (by decide))).trans rw135
      have rw147 : M142 (p + 3) = Lw := by rw [← hM143]; exact (m_s_a (of_ne0 (by decide))).trans rw136
      have rw148 : M142 (p + 4) = Pb := by rw [← hM143]; exact (m_s_a (of_ne0 (by decide))).trans rw137
      have fr149 : fr (fun z => p ≤ z ∧ z ≤ p + 4) M M142 := fun z hz => by
        have hz1 : ¬ (p ≤ z ∧ z ≤ p + 4) := hz
        rw [← hM143]; exact (m_s_a (by omega)).trans (fr138 z hz)
      clear fr138 rw133 rw134 rw135 rw136 rw137 hM143
      refine go_aload_n X d_People_assignOnePart_62 rfl rfl ?_
      refine go_aload_n X d_People_assignOnePart_63 rfl rfl ?_
      refine go_get (v := vi ((low2 Lw (max ((V 5) - 1) 0).toNat) + 1)) X f_People_113 h.1.1 rfl d_People_assignOnePart_64 (congrArg (s_v .int) (show M142 p 11 = (low2 Lw (max ((V 5) - 1) 0).toNat) + 1 by rw [rw144]; simp [rset, inc])) ?_
      refine go_put (x := ((low2 Lw (max ((V 5) - 1) 0).toNat) + 1)) (v := vi ((low2 Lw (max ((V 5) - 1) 0).toNat) + 1)) X f_People_116 h.1.1 rfl d_People_assignOnePart_67 rfl rfl rfl ?_
      generalize hM152 : m_s M142 p 12 ((low2 Lw (max ((V 5) - 1) 0).toNat) + 1) = M151
      have pe159 : pev sh M151 p := by rw [← hM152]; exact pe150.put (by decide)
      have rw153 : M151 p = rset (rset (rset (rset (rset V 8 0) 9 (max ((V 5) - 1) 0)) 10 (max ((V 5) - 1) 0)) 11 ((low2 Lw (max ((V 5) - 1) 0).toNat) + 1)) 12 ((low2 Lw (max ((V 5) - 1) 0).toNat) + 1) := by rw [← hM152]; exact row_set rw144
      have rw154 : M151 (p + 1) = B := by rw [← hM152]; exact (m_s_a (of_ne0 (by decide))).trans rw145
      have rw155 : M151 (p + 2) = N := by rw [← hM152]; exact (m_s_a (of_ne0 (by decide))).trans rw146
      have rw156 : M151 (p + 3) = Lw := by rw [← hM152]; exact (m_s_a (of_ne0 (by decide))).trans rw147
      have rw157 : M151 (p + 4) = Pb := by rw [← hM152]; exact (m_s_a (of_ne0 (by decide))).trans rw148
      have fr158 : fr (fun z => p ≤ z ∧ z ≤ p + 4) M M151 := fun z hz => by
        have hz1 : ¬ (p ≤ z ∧ z ≤ p + 4) := hz
        rw [← hM152]; exact (m_s_a (by omega)).trans (fr149 z hz)
      clear fr149 rw144 rw145 rw146 rw147 rw148 hM152
      refine go_aload_n X d_People_assignOnePart_70 rfl rfl ?_
      refine go_aload_n X d_People_assignOnePart_71 rfl rfl ?_
      refine go_get (v := vi (V 5)) X f_People_62 h.1.1 rfl d_People_assignOnePart_72 (congrArg (s_v .int) (show M151 p 5 = V 5 by rw [rw153]; simp [rset, inc])) ?_
      refine go_put (x := (V 5)) (v := vi (V 5)) X f_People_119 h.1.1 rfl d_People_assignOnePart_75 rfl rfl rfl ?_
      generalize hM161 : m_s M151 p 13 (V 5) = M160
      have pe168 : pev sh M160 p := by rw [← hM161]; exact pe159.put (by decide)
      have rw162 : M160 p = rset (rset (rset (rset (rset (rset V 8 0) 9 (max ((V 5) - 1) 0)) 10 (max ((V 5) - 1) 0)) 11 ((low2 Lw (max ((V 5) - 1) 0).toNat) + 1)) 12 ((low2 Lw (max ((V 5) - 1) 0).toNat) + 1)) 13 (V 5) := by rw [← hM161]; exact row_set rw153
      have rw163 : M160 (p + 1) = B := by rw [← hM161]; exact (m_s_a (of_ne0 (by decide))).trans rw154
      have rw164 : M160 (p + 2) = N := by rw [← hM161]; exact (m_s_a (of_ne0 (by decide))).trans rw155
      have rw165 : M160 (p + 3) = Lw := by rw [← hM161]; exact (m_s_a (of_ne0 (by decide))).trans rw156
      have rw166 : M160 (p + 4) = Pb := by rw [← hM161]; exact (m_s_a (of_ne0 (by decide))).trans rw157
      have fr167 : fr (fun z => p ≤ z ∧ z ≤ p + 4) M M160 := fun z hz => by
        have hz1 : ¬ (p ≤ z ∧ z ≤ p + 4) := hz
        rw [← hM161]; exact (m_s_a (by omega)).trans (fr158 z hz)
      clear fr158 rw153 rw154 rw155 rw156 rw157 hM161
      refine go_aload_n X d_People_assignOnePart_78 rfl rfl ?_
      refine go_aload_n X d_People_assignOnePart_79 rfl rfl ?_
      refine go_get (v := vi (V 5)) X f_People_62 h.1.1 rfl d_People_assignOnePart_80 (congrArg (s_v .int) (show M160 p 5 = V 5 by rw [rw162]; simp [rset, inc])) ?_
      refine go_put (x := (V 5)) (v := vi (V 5)) X f_People_122 h.1.1 rfl d_People_assignOnePart_83 rfl rfl rfl ?_
      generalize hM170 : m_s M160 p 14 (V 5) = M169
      have pe177 : pev sh M169 p := by rw [← hM170]; exact pe168.put (by decide)
      have rw171 : M169 p = rset (rset (rset (rset (rset (rset (rset V 8 0) 9 (max ((V 5) - 1) 0)) 10 (max ((V 5) - 1) 0)) 11 ((low2 Lw (max ((V 5) - 1) 0).toNat) + 1)) 12 ((low2 Lw (max ((V 5) - 1) 0).toNat) + 1)) 13 (V 5)) 14 (V 5) := by rw [← hM170]; exact row_set rw162
      have rw172 : M169 (p + 1) = B := by rw [← hM170]; exact (m_s_a (of_ne0 (by decide))).trans rw163
      have rw173 : M169 (p + 2) = N := by rw [← hM170]; exact (m_s_a (of_ne0 (by decide))).trans rw164
      have rw174 : M169 (p + 3) = Lw := by rw [← hM170]; exact (m_s_a (of_ne0 (by decide))).trans rw165
      have rw175 : M169 (p + 4) = Pb := by rw [← hM170]; exact (m_s_a (of_ne0 (by decide))).trans rw166
      have fr176 : fr (fun z => p ≤ z ∧ z ≤ p + 4) M M169 := fun z hz => by
        have hz1 : ¬ (p ≤ z ∧ z ≤ p + 4) := hz
        rw [← hM170]; exact (m_s_a (by omega)).trans (fr167 z hz)
      clear fr167 rw162 rw163 rw164 rw165 rw166 hM170
      refine go_aload_n X d_People_assignOnePart_86 rfl rfl ?_
      refine go_aload_n X d_People_assignOnePart_87 rfl rfl ?_
      refine go_get (v := vi (V 5)) X f_People_62 h.1.1 rfl d_People_assignOnePart_88 (congrArg (s_v .int) (show M169 p 5 = V 5 by rw [rw171]; simp [rset, inc])) ?_
      refine go_put (x := (V 5)) (v := vi (V 5)) X f_People_125 h.1.1 rfl d_People_assignOnePart_91 rfl rfl rfl ?_
      generalize hM179 : m_s M169 p 15 (V 5) = M178
      have pe186 : pev sh M178 p := by rw [← hM179]; exact pe177.put (by decide)
      have rw180 : M178 p = rset (rset (rset (rset (rset (rset (rset (rset V 8 0) 9 (max ((V 5) - 1) 0)) 10 (max ((V 5) - 1) 0)) 11 ((low2 Lw (max ((V 5) - 1) 0).toNat) + 1)) 12 ((low2 Lw (max ((V 5) - 1) 0).toNat) + 1)) 13 (V 5)) 14 (V 5)) 15 (V 5) := by rw [← hM179]; exact row_set rw171
      have rw181 : M178 (p + 1) = B := by rw [← hM179]; exact (m_s_a (of_ne0 (by decide))).trans rw172
      have rw182 : M178 (p + 2) = N := by rw [← hM179]; exact (m_s_a (of_ne0 (by decide))).trans rw173
      have rw183 : M178 (p + 3) = Lw := by rw [← hM179]; exact (m_s_a (of_ne0 (by decide))).trans rw174
      have rw184 : M178 (p + 4) = Pb := by rw [← hM179]; exact (m_s_a (of_ne0 (by decide))).trans rw175
      have fr185 : fr (fun z => p ≤ z ∧ z ≤ p + 4) M M178 := fun z hz => by
        have hz1 : ¬ (p ≤ z ∧ z ≤ p + 4) := hz
        rw [← hM179]; exact (m_s_a (by omega)).trans (fr176 z hz)
      clear fr176 rw171 rw172 rw173 rw174 rw175 hM179
      refine go_vret X d_People_assignOnePart_94 rfl (by omega) (by omega) ?_
      exfalso
      omega
    · skip
      refine go_iload_n X d_People_assignOnePart_48 rfl rfl ?_
      refine go_goto (tgt := 59) X d_People_assignOnePart_49 rfl ?_
      refine go_put (x := (max ((V 5) - 1) 0)) (v := vi (max ((V 5) - 1) 0)) X f_People_113 h.1.1 rfl d_People_assignOnePart_59 rfl rfl rfl ?_
      generalize hM188 : m_s M131 p 11 (max ((V 5) - 1) 0) = M187
      have pe195 : pev sh M187 p := by rw [← hM188]; exact pe139.put (by decide)
      have rw189 : M187 p = rset (rset (rset (rset V 8 0) 9 (max ((V 5) - 1) 0)) 10 (max ((V 5) - 1) 0)) 11 (max ((V 5) - 1) 0) := by rw [← hM188]; exact row_set rw133
      have rw190 : M187 (p + 1) = B := by rw [← hM188]; exact (m_s_a (of_ne0 (by decide))).trans rw134
      have rw191 : M187 (p + 2) = N := by rw [← hM188]; exact (m_s_a (of_ne0 (by decide))).trans rw135
      have rw192 : M187 (p + 3) = Lw := by rw [← hM188]; exact (m_s_a (of_ne0 (by decide))).trans rw136
      have rw193 : M187 (p + 4) = Pb := by rw [← hM188]; exact (m_s_a (of_ne0 (by decide))).trans rw137
      have fr194 : fr (fun z => p ≤ z ∧ z ≤ p + 4) M M187 := fun z hz => by
        have hz1 : ¬ (p ≤ z ∧ z ≤ p + 4) := hz
        rw [← hM188]; exact (m_s_a (by omega)).trans (fr138 z hz)
      clear fr138 rw133 rw134 rw135 rw136 rw137 hM188
      refine go_aload_n X d_People_assignOnePart_62 rfl rfl ?_
      refine go_aload_n X d_People_assignOnePart_63 rfl rfl ?_
      refine go_get (v := vi (max ((V 5) - 1) 0)) X f_People_113 h.1.1 rfl d_People_assignOnePart_64 (congrArg (s_v .int) (show M187 p 11 = max ((V 5) - 1) 0 by rw [rw189]; simp [rset, inc])) ?_
      refine go_put (x := (max ((V 5) - 1) 0)) (v := vi (max ((V 5) - 1) 0)) X f_People_116 h.1.1 rfl d_People_assignOnePart_67 rfl rfl rfl ?_
      generalize hM197 : m_s M187 p 12 (max ((V 5) - 1) 0) = M196
      have pe204 : pev sh M196 p := by rw [← hM197]; exact pe195.put (by decide)
      have rw198 : M196 p = rset (rset (rset (rset (rset V 8 0) 9 (max ((V 5) - 1) 0)) 10 (max ((V 5) - 1) 0)) 11 (max ((V 5) - 1) 0)) 12 (max ((V 5) - 1) 0) := by rw [← hM197]; exact row_set rw189
      have rw199 : M196 (p + 1) = B := by rw [← hM197]; exact (m_s_a (of_ne0 (by decide))).trans rw190
      have rw200 : M196 (p + 2) = N := by rw [← hM197]; exact (m_s_a (of_ne0 (by decide))).trans rw191
      have rw201 : M196 (p + 3) = Lw := by rw [← hM197]; exact (m_s_a (of_ne0 (by decide))).trans rw192
      have rw202 : M196 (p + 4) = Pb := by rw [← hM197]; exact (m_s_a (of_ne0 (by decide))).trans rw193
      have fr203 : fr (fun z => p ≤ z ∧ z ≤ p + 4) M M196 := fun z hz => by
        have hz1 : ¬ (p ≤ z ∧ z ≤ p + 4) := hz
        rw [← hM197]; exact (m_s_a (by omega)).trans (fr194 z hz)
      clear fr194 rw189 rw190 rw191 rw192 rw193 hM197
      refine go_aload_n X d_People_assignOnePart_70 rfl rfl ?_
      refine go_aload_n X d_People_assignOnePart_71 rfl rfl ?_
      refine go_get (v := vi (V 5)) X f_People_62 h.1.1 rfl d_People_assignOnePart_72 (congrArg (s_v .int) (show M196 p 5 = V 5 by rw [rw198]; simp [rset, inc])) ?_
      refine go_put (x := (V 5)) (v := vi (V 5)) X f_People_119 h.1.1 rfl d_People_assignOnePart_75 rfl rfl rfl ?_
      generalize hM206 : m_s M196 p 13 (V 5) = M205
      have pe213 : pev sh M205 p := by rw [← hM206]; exact pe204.put (by decide)
      have rw207 : M205 p = rset (rset (rset (rset (rset (rset V 8 0) 9 (max ((V 5) - 1) 0)) 10 (max ((V 5) - 1) 0)) 11 (max ((V 5) - 1) 0)) 12 (max ((V 5) - 1) 0)) 13 (V 5) := by rw [← hM206]; exact row_set rw198
      have rw208 : M205 (p + 1) = B := by rw [← hM206]; exact (m_s_a (of_ne0 (by decide))).trans rw199
      have rw209 : M205 (p + 2) = N := by rw [← hM206]; exact (m_s_a (of_ne0 (by decide))).trans rw200
      have rw210 : M205 (p + 3) = Lw := by rw [← hM206]; exact (m_s_a (of_ne0 (by decide))).trans rw201
      have rw211 : M205 (p + 4) = Pb := by rw [← hM206]; exact (m_s_a (of_ne0 (by decide))).trans rw202
      have fr212 : fr (fun z => p ≤ z ∧ z ≤ p + 4) M M205 := fun z hz => by
        have hz1 : ¬ (p ≤ z ∧ z ≤ p + 4) := hz
        rw [← hM206]; exact (m_s_a (by omega)).trans (fr203 z hz)
      clear fr203 rw198 rw199 rw200 rw201 rw202 hM206
      refine go_aload_n X d_People_assignOnePart_78 rfl rfl ?_
      refine go_aload_n X d_People_assignOnePart_79 rfl rfl ?_
      refine go_get (v := vi (V 5)) X f_People_62 h.1.1 rfl d_People_assignOnePart_80 (congrArg (s_v .int) (show M205 p 5 = V 5 by rw [rw207]; simp [rset, inc])) ?_
      refine go_put (x := (V 5)) (v := vi (V 5)) X f_People_122 h.1.1 rfl d_People_assignOnePart_83 rfl rfl rfl ?_
      generalize hM215 : m_s M205 p 14 (V 5) = M214
      have pe222 : pev sh M214 p := by rw [← hM215]; exact pe213.put (by decide)
      have rw216 : M214 p = rset (rset (rset (rset (rset (rset (rset V 8 0) 9 (max ((V 5) - 1) 0)) 10 (max ((V 5) - 1) 0)) 11 (max ((V 5) - 1) 0)) 12 (max ((V 5) - 1) 0)) 13 (V 5)) 14 (V 5) := by rw [← hM215]; exact row_set rw207
      have rw217 : M214 (p + 1) = B := by rw [← hM215]; exact (m_s_a (of_ne0 (by decide))).trans rw208
      have rw218 : M214 (p + 2) = N := by rw [← hM215]; exact (m_s_a (of_ne0 (by decide))).trans rw209
      have rw219 : M214 (p + 3) = Lw := by rw [← hM215]; exact (m_s_a (of_ne0 (by decide))).trans rw210
      have rw220 : M214 (p + 4) = Pb := by rw [← hM215]; exact (m_s_a (of_ne0 (by decide))).trans rw211
      have fr221 : fr (fun z => p ≤ z ∧ z ≤ p + 4) M M214 := fun z hz => by
        have hz1 : ¬ (p ≤ z ∧ z ≤ p + 4) := hz
        rw [← hM215]; exact (m_s_a (by omega)).trans (fr212 z hz)
      clear fr212 rw207 rw208 rw209 rw210 rw211 hM215
      refine go_aload_n X d_People_assignOnePart_86 rfl rfl ?_
      refine go_aload_n X d_People_assignOnePart_87 rfl rfl ?_
      refine go_get (v := vi (V 5)) X f_People_62 h.1.1 rfl d_People_assignOnePart_88 (congrArg (s_v .int) (show M214 p 5 = V 5 by rw [rw216]; simp [rset, inc])) ?_
      refine go_put (x := (V 5)) (v := vi (V 5)) X f_People_125 h.1.1 rfl d_People_assignOnePart_91 rfl rfl rfl ?_
      generalize hM224 : m_s M214 p 15 (V 5) = M223
      have pe231 : pev sh M223 p := by rw [← hM224]; exact pe222.put (by decide)
      have rw225 : M223 p = rset (rset (rset (rset (rset (rset (rset (rset V 8 0) 9 (max ((V 5) - 1) 0)) 10 (max ((V 5) - 1) 0)) 11 (max ((V 5) - 1) 0)) 12 (max ((V 5) - 1) 0)) 13 (V 5)) 14 (V 5)) 15 (V 5) := by rw [← hM224]; exact row_set rw216
      have rw226 : M223 (p + 1) = B := by rw [← hM224]; exact (m_s_a (of_ne0 (by decide))).trans rw217
      have rw227 : M223 (p + 2) = N := by rw [← hM224]; exact (m_s_a (of_ne0 (by decide))).trans rw218
      have rw228 : M223 (p + 3) = Lw := by rw [← hM224]; exact (m_s_a (of_ne0 (by decide))).trans rw219
      have rw229 : M223 (p + 4) = Pb := by rw [← hM224]; exact (m_s_a (of_ne0 (by decide))).trans rw220
      have fr230 : fr (fun z => p ≤ z ∧ z ≤ p + 4) M M223 := fun z hz => by
        have hz1 : ¬ (p ≤ z ∧ z ≤ p + 4) := hz
        rw [← hM224]; exact (m_s_a (by omega)).trans (fr221 z hz)
      clear fr221 rw216 rw217 rw218 rw219 rw220 hM224
      refine go_vret X d_People_assignOnePart_94 rfl (by omega) (by omega) ?_
      have a0 : aoL (V 5) = max (V 5 - 1) 0 := rfl
      have a1 : aoE Lw (V 5) = max (V 5 - 1) 0 := if_pos hq11
      have a2 : aoV Lw (V 5) = max (V 5 - 1) 0 := if_pos hq11
      have hV : M223 p = ao1 V Lw (V 5) := by
        rw [rw225]
        unfold ao1
        rw [a1, a2]
      exact ⟨rfl, rfl, rfl, ⟨pe231, hV, rw226, rw227, rw228, rw229⟩, fr230⟩
set_option maxHeartbeats 4000000 in
set_option maxRecDepth 100000 in
theorem c_People_assignParts (l : Launch) (D : va_G) {sh : s_S} {M : s_M} {sz p : Int} {V B N Lw Pb : Int → Int} (h : ppl sh M p V B N Lw Pb) (hLr : ∀ i, 0 ≤ Lw i ∧ Lw i ≤ 1) (hw : 0 ≤ V 5 ∧ V 5 ≤ 60) (hq : 2 ≤ V 7 ∧ V 7 ≤ 3) (hP : 0 ≤ Pb 1 ∧ Pb 1 ≤ 60) : Sp l D y_People_assignParts prog_7_method_13_code 2 none 2 0 0 [vr p] sh M sz (fun v' sh' M' sz' => v' = none ∧ sh' = sh ∧ sz' = sz ∧ ppl sh M' p (ao2 V Lw Pb (V 5) (V 7)) B N Lw Pb ∧ fr (fun z => p ≤ z ∧ z ≤ p + 4) M M') := by
  have hp0 : 0 ≤ p := h.1.2.2.2.2.2.2.2.2.2
  refine Sp.ofGo (own := "CiteForge$People") (nm := "assignParts") (by decide) rfl rfl (Nat.le_of_ble_eq_true rfl) (lv := [(0, vr p)]) rfl ?_
  intro g X
  refine go_aload_n X d_People_assignParts_0 rfl rfl ?_
  refine go_get (v := vr (p + 4)) X f_People_22 h.1.1 rfl d_People_assignParts_1 (s_varr (h.1.2.2.2.2.2.2.2.2.1) (by omega)) ?_
  refine go_iconst (v := 1) X d_People_assignParts_4 ?_
  refine go_iald X h.1.2.2.2.2.1 (by omega) (by omega) d_People_assignParts_5 ?_
  refine go_top (v' := vi (Pb 1)) X (by rw [h.2.2.2.2.2]) ?_
  refine go_istore_n (lv' := [(1, vi (Pb 1)), (0, vr p)]) X d_People_assignParts_6 rfl (by decide) rfl ?_
  refine go_aload_n X d_People_assignParts_7 rfl rfl ?_
  refine go_iconst (v := 0) X d_People_assignParts_8 ?_
  refine go_put (x := 0) (v := vi 0) X f_People_107 h.1.1 rfl d_People_assignParts_9 rfl rfl rfl ?_
  generalize hM2 : m_s M p 10 0 = M1
  have pe9 : pev sh M1 p := by rw [← hM2]; exact h.1.put (by decide)
  have rw3 : M1 p = rset V 10 0 := by rw [← hM2]; exact row_set h.2.1
  have rw4 : M1 (p + 1) = B := by rw [← hM2]; exact (m_s_a (of_ne0 (by decide))).trans h.2.2.1
  have rw5 : M1 (p + 2) = N := by rw [← hM2]; exact (m_s_a (of_ne0 (by decide))).trans h.2.2.2.1
  have rw6 : M1 (p + 3) = Lw := by rw [← hM2]; exact (m_s_a (of_ne0 (by decide))).trans h.2.2.2.2.1
  have rw7 : M1 (p + 4) = Pb := by rw [← hM2]; exact (m_s_a (of_ne0 (by decide))).trans h.2.2.2.2.2
  have fr8 : fr (fun z => p ≤ z ∧ z ≤ p + 4) M M1 := fun z hz => by
    have hz1 : ¬ (p ≤ z ∧ z ≤ p + 4) := hz
    rw [← hM2]; exact (m_s_a (by omega))
  clear hM2
  refine go_aload_n X d_People_assignParts_12 rfl rfl ?_
  refine go_aload_n X d_People_assignParts_13 rfl rfl ?_
  refine go_iload_n X d_People_assignParts_14 rfl rfl ?_
  refine go_iconst (v := 1) X d_People_assignParts_15 ?_
  refine go_isub X d_People_assignParts_16 ?_
  refine go_cVf (st2 := [vi (low2 Lw ((Pb 1) - 1).toNat), vr p]) (r := [vr p]) X k_People_110 (c_People_lastLow l D pe9 rw6 hLr (by omega)) h.1.1 rfl rfl (by omega) (Nat.le_of_ble_eq_true rfl) d_People_assignParts_17 (by omega) (by omega) rfl ?_
  have hl10 := low2_rng (W := Lw) ((Pb 1) - 1).toNat
  refine go_iconst (v := 1) X d_People_assignParts_20 ?_
  refine go_iadd X d_People_assignParts_21 ?_
  refine go_put (x := ((low2 Lw ((Pb 1) - 1).toNat) + 1)) (v := vi ((low2 Lw ((Pb 1) - 1).toNat) + 1)) X f_People_113 h.1.1 rfl d_People_assignParts_22 rfl rfl rfl ?_
  generalize hM12 : m_s M1 p 11 ((low2 Lw ((Pb 1) - 1).toNat) + 1) = M11
  have pe19 : pev sh M11 p := by rw [← hM12]; exact pe9.put (by decide)
  have rw13 : M11 p = rset (rset V 10 0) 11 ((low2 Lw ((Pb 1) - 1).toNat) + 1) := by rw [← hM12]; exact row_set rw3
  have rw14 : M11 (p + 1) = B := by rw [← hM12]; exact (m_s_a (of_ne0 (by decide))).trans rw4
  have rw15 : M11 (p + 2) = N := by rw [← hM12]; exact (m_s_a (of_ne0 (by decide))).trans rw5
  have rw16 : M11 (p + 3) = Lw := by rw [← hM12]; exact (m_s_a (of_ne0 (by decide))).trans rw6
  have rw17 : M11 (p + 4) = Pb := by rw [← hM12]; exact (m_s_a (of_ne0 (by decide))).trans rw7
  have fr18 : fr (fun z => p ≤ z ∧ z ≤ p + 4) M M11 := fun z hz => by
    have hz1 : ¬ (p ≤ z ∧ z ≤ p + 4) := hz
    rw [← hM12]; exact (m_s_a (by omega)).trans (fr8 z hz)
  clear fr8 rw3 rw4 rw5 rw6 rw7 hM12
  refine go_aload_n X d_People_assignParts_25 rfl rfl ?_
  refine go_aload_n X d_People_assignParts_26 rfl rfl ?_
  refine go_get (v := vi ((low2 Lw ((Pb 1) - 1).toNat) + 1)) X f_People_113 h.1.1 rfl d_People_assignParts_27 (congrArg (s_v .int) (show M11 p 11 = (low2 Lw ((Pb 1) - 1).toNat) + 1 by rw [rw13]; simp [rset, inc])) ?_
  refine go_put (x := ((low2 Lw ((Pb 1) - 1).toNat) + 1)) (v := vi ((low2 Lw ((Pb 1) - 1).toNat) + 1)) X f_People_116 h.1.1 rfl d_People_assignParts_30 rfl rfl rfl ?_
  generalize hM21 : m_s M11 p 12 ((low2 Lw ((Pb 1) - 1).toNat) + 1) = M20
  have pe28 : pev sh M20 p := by rw [← hM21]; exact pe19.put (by decide)
  have rw22 : M20 p = rset (rset (rset V 10 0) 11 ((low2 Lw ((Pb 1) - 1).toNat) + 1)) 12 ((low2 Lw ((Pb 1) - 1).toNat) + 1) := by rw [← hM21]; exact row_set rw13
  have rw23 : M20 (p + 1) = B := by rw [← hM21]; exact (m_s_a (of_ne0 (by decide))).trans rw14
  have rw24 : M20 (p + 2) = N := by rw [← hM21]; exact (m_s_a (of_ne0 (by decide))).trans rw15
  have rw25 : M20 (p + 3) = Lw := by rw [← hM21]; exact (m_s_a (of_ne0 (by decide))).trans rw16
  have rw26 : M20 (p + 4) = Pb := by rw [← hM21]; exact (m_s_a (of_ne0 (by decide))).trans rw17
  have fr27 : fr (fun z => p ≤ z ∧ z ≤ p + 4) M M20 := fun z hz => by
    have hz1 : ¬ (p ≤ z ∧ z ≤ p + 4) := hz
    rw [← hM21]; exact (m_s_a (by omega)).trans (fr18 z hz)
  clear fr18 rw13 rw14 rw15 rw16 rw17 hM21
  refine go_aload_n X d_People_assignParts_33 rfl rfl ?_
  refine go_iload_n X d_People_assignParts_34 rfl rfl ?_
  refine go_put (x := (Pb 1)) (v := vi (Pb 1)) X f_People_119 h.1.1 rfl d_People_assignParts_35 rfl rfl rfl ?_
  generalize hM30 : m_s M20 p 13 (Pb 1) = M29
  have pe37 : pev sh M29 p := by rw [← hM30]; exact pe28.put (by decide)
  have rw31 : M29 p = rset (rset (rset (rset V 10 0) 11 ((low2 Lw ((Pb 1) - 1).toNat) + 1)) 12 ((low2 Lw ((Pb 1) - 1).toNat) + 1)) 13 (Pb 1) := by rw [← hM30]; exact row_set rw22
  have rw32 : M29 (p + 1) = B := by rw [← hM30]; exact (m_s_a (of_ne0 (by decide))).trans rw23
  have rw33 : M29 (p + 2) = N := by rw [← hM30]; exact (m_s_a (of_ne0 (by decide))).trans rw24
  have rw34 : M29 (p + 3) = Lw := by rw [← hM30]; exact (m_s_a (of_ne0 (by decide))).trans rw25
  have rw35 : M29 (p + 4) = Pb := by rw [← hM30]; exact (m_s_a (of_ne0 (by decide))).trans rw26
  have fr36 : fr (fun z => p ≤ z ∧ z ≤ p + 4) M M29 := fun z hz => by
    have hz1 : ¬ (p ≤ z ∧ z ≤ p + 4) := hz
    rw [← hM30]; exact (m_s_a (by omega)).trans (fr27 z hz)
  clear fr27 rw22 rw23 rw24 rw25 rw26 hM30
  refine go_aload_n X d_People_assignParts_38 rfl rfl ?_
  refine go_iload_n X d_People_assignParts_39 rfl rfl ?_
  refine go_put (x := (Pb 1)) (v := vi (Pb 1)) X f_People_122 h.1.1 rfl d_People_assignParts_40 rfl rfl rfl ?_
  generalize hM39 : m_s M29 p 14 (Pb 1) = M38
  have pe46 : pev sh M38 p := by rw [← hM39]; exact pe37.put (by decide)
  have rw40 : M38 p = rset (rset (rset (rset (rset V 10 0) 11 ((low2 Lw ((Pb 1) - 1).toNat) + 1)) 12 ((low2 Lw ((Pb 1) - 1).toNat) + 1)) 13 (Pb 1)) 14 (Pb 1) := by rw [← hM39]; exact row_set rw31
  have rw41 : M38 (p + 1) = B := by rw [← hM39]; exact (m_s_a (of_ne0 (by decide))).trans rw32
  have rw42 : M38 (p + 2) = N := by rw [← hM39]; exact (m_s_a (of_ne0 (by decide))).trans rw33
  have rw43 : M38 (p + 3) = Lw := by rw [← hM39]; exact (m_s_a (of_ne0 (by decide))).trans rw34
  have rw44 : M38 (p + 4) = Pb := by rw [← hM39]; exact (m_s_a (of_ne0 (by decide))).trans rw35
  have fr45 : fr (fun z => p ≤ z ∧ z ≤ p + 4) M M38 := fun z hz => by
    have hz1 : ¬ (p ≤ z ∧ z ≤ p + 4) := hz
    rw [← hM39]; exact (m_s_a (by omega)).trans (fr36 z hz)
  clear fr36 rw31 rw32 rw33 rw34 rw35 hM39
  refine go_aload_n X d_People_assignParts_43 rfl rfl ?_
  refine go_aload_n X d_People_assignParts_44 rfl rfl ?_
  refine go_get (v := vr (p + 4)) X f_People_22 h.1.1 rfl d_People_assignParts_45 (s_varr (pe46.2.2.2.2.2.2.2.2.1) (by omega)) ?_
  refine go_aload_n X d_People_assignParts_48 rfl rfl ?_
  refine go_get (v := vi (V 7)) X f_People_72 h.1.1 rfl d_People_assignParts_49 (congrArg (s_v .int) (show M38 p 7 = V 7 by rw [rw40]; simp [rset, inc])) ?_
  refine go_iconst (v := 1) X d_People_assignParts_52 ?_
  refine go_isub X d_People_assignParts_53 ?_
  refine go_iald X h.1.2.2.2.2.1 (by omega) (by omega) d_People_assignParts_54 ?_
  refine go_top (v' := vi (Pb ((V 7) - 1))) X (by rw [rw44]) ?_
  refine go_put (x := (Pb ((V 7) - 1))) (v := vi (Pb ((V 7) - 1))) X f_People_125 h.1.1 rfl d_People_assignParts_55 rfl rfl rfl ?_
  generalize hM48 : m_s M38 p 15 (Pb ((V 7) - 1)) = M47
  have pe55 : pev sh M47 p := by rw [← hM48]; exact pe46.put (by decide)
  have rw49 : M47 p = rset (rset (rset (rset (rset (rset V 10 0) 11 ((low2 Lw ((Pb 1) - 1).toNat) + 1)) 12 ((low2 Lw ((Pb 1) - 1).toNat) + 1)) 13 (Pb 1)) 14 (Pb 1)) 15 (Pb ((V 7) - 1)) := by rw [← hM48]; exact row_set rw40
  have rw50 : M47 (p + 1) = B := by rw [← hM48]; exact (m_s_a (of_ne0 (by decide))).trans rw41
  have rw51 : M47 (p + 2) = N := by rw [← hM48]; exact (m_s_a (of_ne0 (by decide))).trans rw42
  have rw52 : M47 (p + 3) = Lw := by rw [← hM48]; exact (m_s_a (of_ne0 (by decide))).trans rw43
  have rw53 : M47 (p + 4) = Pb := by rw [← hM48]; exact (m_s_a (of_ne0 (by decide))).trans rw44
  have fr54 : fr (fun z => p ≤ z ∧ z ≤ p + 4) M M47 := fun z hz => by
    have hz1 : ¬ (p ≤ z ∧ z ≤ p + 4) := hz
    rw [← hM48]; exact (m_s_a (by omega)).trans (fr45 z hz)
  clear fr45 rw40 rw41 rw42 rw43 rw44 hM48
  refine go_aload_n X d_People_assignParts_58 rfl rfl ?_
  refine go_aload_n X d_People_assignParts_59 rfl rfl ?_
  refine go_get (v := vi (Pb ((V 7) - 1))) X f_People_125 h.1.1 rfl d_People_assignParts_60 (congrArg (s_v .int) (show M47 p 15 = Pb ((V 7) - 1) by rw [rw49]; simp [rset, inc])) ?_
  refine go_put (x := (Pb ((V 7) - 1))) (v := vi (Pb ((V 7) - 1))) X f_People_101 h.1.1 rfl d_People_assignParts_63 rfl rfl rfl ?_
  generalize hM57 : m_s M47 p 8 (Pb ((V 7) - 1)) = M56
  have pe64 : pev sh M56 p := by rw [← hM57]; exact pe55.put (by decide)
  have rw58 : M56 p = rset (rset (rset (rset (rset (rset (rset V 10 0) 11 ((low2 Lw ((Pb 1) - 1).toNat) + 1)) 12 ((low2 Lw ((Pb 1) - 1).toNat) + 1)) 13 (Pb 1)) 14 (Pb 1)) 15 (Pb ((V 7) - 1))) 8 (Pb ((V 7) - 1)) := by rw [← hM57]; exact row_set rw49
  have rw59 : M56 (p + 1) = B := by rw [← hM57]; exact (m_s_a (of_ne0 (by decide))).trans rw50
  have rw60 : M56 (p + 2) = N := by rw [← hM57]; exact (m_s_a (of_ne0 (by decide))).trans rw51
  have rw61 : M56 (p + 3) = Lw := by rw [← hM57]; exact (m_s_a (of_ne0 (by decide))).trans rw52
  have rw62 : M56 (p + 4) = Pb := by rw [← hM57]; exact (m_s_a (of_ne0 (by decide))).trans rw53
  have fr63 : fr (fun z => p ≤ z ∧ z ≤ p + 4) M M56 := fun z hz => by
    have hz1 : ¬ (p ≤ z ∧ z ≤ p + 4) := hz
    rw [← hM57]; exact (m_s_a (by omega)).trans (fr54 z hz)
  clear fr54 rw49 rw50 rw51 rw52 rw53 hM57
  refine go_aload_n X d_People_assignParts_66 rfl rfl ?_
  refine go_aload_n X d_People_assignParts_67 rfl rfl ?_
  refine go_get (v := vi (V 5)) X f_People_62 h.1.1 rfl d_People_assignParts_68 (congrArg (s_v .int) (show M56 p 5 = V 5 by rw [rw58]; simp [rset, inc])) ?_
  refine go_put (x := (V 5)) (v := vi (V 5)) X f_People_104 h.1.1 rfl d_People_assignParts_71 rfl rfl rfl ?_
  generalize hM66 : m_s M56 p 9 (V 5) = M65
  have pe73 : pev sh M65 p := by rw [← hM66]; exact pe64.put (by decide)
  have rw67 : M65 p = rset (rset (rset (rset (rset (rset (rset (rset V 10 0) 11 ((low2 Lw ((Pb 1) - 1).toNat) + 1)) 12 ((low2 Lw ((Pb 1) - 1).toNat) + 1)) 13 (Pb 1)) 14 (Pb 1)) 15 (Pb ((V 7) - 1))) 8 (Pb ((V 7) - 1))) 9 (V 5) := by rw [← hM66]; exact row_set rw58
  have rw68 : M65 (p + 1) = B := by rw [← hM66]; exact (m_s_a (of_ne0 (by decide))).trans rw59
  have rw69 : M65 (p + 2) = N := by rw [← hM66]; exact (m_s_a (of_ne0 (by decide))).trans rw60
  have rw70 : M65 (p + 3) = Lw := by rw [← hM66]; exact (m_s_a (of_ne0 (by decide))).trans rw61
  have rw71 : M65 (p + 4) = Pb := by rw [← hM66]; exact (m_s_a (of_ne0 (by decide))).trans rw62
  have fr72 : fr (fun z => p ≤ z ∧ z ≤ p + 4) M M65 := fun z hz => by
    have hz1 : ¬ (p ≤ z ∧ z ≤ p + 4) := hz
    rw [← hM66]; exact (m_s_a (by omega)).trans (fr63 z hz)
  clear fr63 rw58 rw59 rw60 rw61 rw62 hM66
  refine go_vret X d_People_assignParts_74 rfl (by omega) (by omega) ?_
  exact ⟨rfl, rfl, rfl, ⟨pe73, rw67, rw68, rw69, rw70, rw71⟩, fr72⟩
