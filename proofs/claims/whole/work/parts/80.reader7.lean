/-- a word's meaning is the piece at hand; an unknown one is warned of -/
def tmV (W : Int → Int) (Y : Int → List Int) (p u : Int) (V : Int → Int) : Int → Int := if fx W (V 5) u < 0 then spV V p 0 0 else rset (rset (spV V p 0 0) 8 (p + 4 + 1 + 2 * fx W (V 5) u)) 10 ((Y (fx W (V 5) u)).length : Int)
def tmW (W : Int → Int) (u : Int) (V WN : Int → Int) : Int → Int := if fx W (V 5) u < 0 then inc WN 2 else WN
theorem rdw.wrn {sh : s_S} {M : s_M} {p s w j x : Int} {V : Int → Int} {t : List Int} {W : Int → Int} {Y : Int → List Int} {v : List Int} (h : rdw sh M p s w V t W Y v) : rdw sh (m_s M w j x) p s w V t W Y v := by
  obtain ⟨q1, q2, q3, q4, q5, q6, q7, q8, q9, q10, q11, q12⟩ := h
  exact ⟨q1, q2, q3, q4, (m_s_a (by omega)).trans q5, q6, q7, q8.mv (as_set (by omega)), (m_s_a (by omega)).trans q9, q10, q11.mv (as_set (by omega)), q12.mv (as_set (by omega))⟩
set_option maxHeartbeats 4000000 in
set_option maxRecDepth 100000 in
theorem c_Reader_takeMeaning (l : Launch) (D : va_G) {sh : s_S} {M : s_M} {sz p s w : Int} {V : Int → Int} {t : List Int} {W : Int → Int} {Y : Int → List Int} {v : List Int} (h : rdw sh M p s w V t W Y v) (hst : 0 ≤ V 5 ∧ V 5 ≤ 8) {u : Int} (hu : rL u) {WN : Int → Int} (hWN : M w = WN) : Sp l D y_Reader_takeMeaning prog_8_method_17_code 4 none 3 0 0 [vr p, vl u] sh M sz (fun v' sh' M' sz' => v' = none ∧ sh' = sh ∧ sz' = sz ∧ rdw sh M' p s w (tmV W Y p u V) t W Y v ∧ M' w = tmW W u V WN ∧ fr (fun z => z = p ∨ z = w) M M') := by
  have hp0 := h.2.2.2.2.2.2.1
  have hch := h.2.2.2.2.2.2.2.1.rng
  have hln := h.2.2.2.2.2.2.2.1.len
  refine Sp.ofGo (own := "CiteForge$Reader") (nm := "takeMeaning") (by decide) rfl rfl (Nat.le_of_ble_eq_true rfl) (lv := [(0, vr p), (1, vl u)]) rfl ?_
  intro g X
  refine go_aload_n X d_Reader_takeMeaning_0 rfl rfl ?_
  refine go_iconst (v := 0) X d_Reader_takeMeaning_1 ?_
  refine go_iconst (v := 0) X d_Reader_takeMeaning_2 ?_
  refine go_cV (st2 := []) (r := []) X k_Reader_159 (c_Reader_setPiece l D h (b := 0) (e := 0)) h.1 rfl rfl (by omega) (Nat.le_of_ble_eq_true rfl) d_Reader_takeMeaning_3 (by omega) (by omega) (fun v' sh' M1 sz' hpp => ?_)
  obtain ⟨e2, e3, e4, rd5, fr6⟩ := hpp
  subst e2
  rw [e3, e4]
  show Go g 0 0 sh M1 sz 6 [(0, vr p), (1, vl u)] []
  have fr7 : fr (fun z => z = p ∨ z = w) M M1 := fun z hz => by
    have hz1 : ¬ (z = p ∨ z = w) := hz
    exact (fr6 z (by show ¬ (z = p); omega))
  have rw8 : M1 w = WN := (fr6 w (by show ¬ (w = p); omega)).trans hWN
  refine go_aload_n X d_Reader_takeMeaning_6 rfl rfl ?_
  refine go_lload_n X d_Reader_takeMeaning_7 rfl rfl ?_
  have hst2 : spV V p 0 0 5 = V 5 := by simp [spV, rset]
  refine go_cVf (st2 := [vi (fx W (spV V p 0 0 5) u)]) (r := []) X k_Reader_163 (c_Reader_findString l D rd5 (by rw [hst2]; exact hst) hu) rd5.1 rfl rfl (by omega) (Nat.le_of_ble_eq_true rfl) d_Reader_takeMeaning_8 (by omega) (by omega) rfl ?_
  refine go_top (v' := vi (fx W (V 5) u)) X (by rw [hst2]) ?_
  have hfr9 := fx_rng (W := W) (n := V 5) (w := u) hst.1
  refine go_istore_n (lv' := [(3, vi (fx W (V 5) u)), (0, vr p), (1, vl u)]) X d_Reader_takeMeaning_11 rfl (by decide) rfl ?_
  refine go_iload_n X d_Reader_takeMeaning_12 rfl rfl ?_
  refine go_if_ge (tgt := 27) X d_Reader_takeMeaning_13 rfl (by omega) (fun hq9 => ?_) (fun hq9 => ?_)
  · skip
    refine go_aload_n X d_Reader_takeMeaning_27 rfl rfl ?_
    refine go_aload_n X d_Reader_takeMeaning_28 rfl rfl ?_
    refine go_get (v := vr (p + 4)) X f_Reader_35 rd5.1 rfl d_Reader_takeMeaning_29 (s_varr (show M1 p 4 = p + 4 from (congrFun rd5.2.2.2.2.1 4).trans (rd5.2.2.2.2.2.1.2.2.2.2.1)) (by omega)) ?_
    refine go_iload_n X d_Reader_takeMeaning_32 rfl rfl ?_
    obtain ⟨er, et⟩ := rd5.2.2.2.2.2.2.2.2.2.2.1 (fx W (V 5) u) (by omega) (by omega)
    have hel := et.len
    refine go_aald X rd5.2.2.1 (by omega) (by omega) d_Reader_takeMeaning_33 ?_
    refine go_top (v' := vr (p + 4 + 1 + 2 * fx W (V 5) u)) X (s_qref er (by omega)) ?_
    refine go_put (x := (p + 4 + 1 + 2 * fx W (V 5) u)) (v := vr (p + 4 + 1 + 2 * fx W (V 5) u)) X f_Reader_28 rd5.1 rfl d_Reader_takeMeaning_34 (s_vref rfl (by omega)) rfl rfl ?_
    generalize hM11 : m_s M1 p 8 (p + 4 + 1 + 2 * fx W (V 5) u) = M10
    have rd12 : rdw sh M10 p s w (rset (spV V p 0 0) 8 (p + 4 + 1 + 2 * fx W (V 5) u)) t W Y v := by rw [← hM11]; exact rd5.put (by decide)
    have fr13 : fr (fun z => z = p ∨ z = w) M M10 := fun z hz => by
      have hz1 : ¬ (z = p ∨ z = w) := hz
      rw [← hM11]; exact (m_s_a (by omega)).trans (fr7 z hz)
    have rw14 : M10 w = WN := by rw [← hM11]; exact (m_s_a (by omega)).trans rw8
    obtain ⟨er2, et2⟩ := rd12.2.2.2.2.2.2.2.2.2.2.1 (fx W (V 5) u) (by omega) (by omega)
    refine go_aload_n X d_Reader_takeMeaning_37 rfl rfl ?_
    refine go_aload_n X d_Reader_takeMeaning_38 rfl rfl ?_
    refine go_get (v := vr (p + 4 + 1 + 2 * fx W (V 5) u)) X f_Reader_28 rd12.1 rfl d_Reader_takeMeaning_39 (s_vref (show M10 p 8 = p + 4 + 1 + 2 * fx W (V 5) u from (congrFun rd12.2.2.2.2.1 8).trans rset_at) (by omega)) ?_
    refine go_cVf (st2 := [vi (((Y (fx W (V 5) u))).length : Int), vr p]) (r := [vr p]) X k_Reader_50 (k_Text_size l D et2) et2.1.1 rfl rfl (by omega) (Nat.le_of_ble_eq_true rfl) d_Reader_takeMeaning_42 (by omega) (by omega) rfl ?_
    refine go_put (x := (((Y (fx W (V 5) u))).length : Int)) (v := vi (((Y (fx W (V 5) u))).length : Int)) X f_Reader_167 rd5.1 rfl d_Reader_takeMeaning_45 rfl rfl rfl ?_
    generalize hM16 : m_s M10 p 10 (((Y (fx W (V 5) u))).length : Int) = M15
    have rd17 : rdw sh M15 p s w (rset (rset (spV V p 0 0) 8 (p + 4 + 1 + 2 * fx W (V 5) u)) 10 (((Y (fx W (V 5) u))).length : Int)) t W Y v := by rw [← hM16]; exact rd12.put (by decide)
    have fr18 : fr (fun z => z = p ∨ z = w) M M15 := fun z hz => by
      have hz1 : ¬ (z = p ∨ z = w) := hz
      rw [← hM16]; exact (m_s_a (by omega)).trans (fr13 z hz)
    have rw19 : M15 w = WN := by rw [← hM16]; exact (m_s_a (by omega)).trans rw14
    refine go_vret X d_Reader_takeMeaning_48 rfl (by omega) (by omega) ?_
    rw [show tmV W Y p u V = rset (rset (spV V p 0 0) 8 (p + 4 + 1 + 2 * fx W (V 5) u)) 10 ((Y (fx W (V 5) u)).length : Int) from if_neg (by omega), show tmW W u V WN = WN from if_neg (by omega)]
    exact ⟨rfl, rfl, rfl, rd17, rw19, fr18⟩
  · skip
    refine go_aload_n X d_Reader_takeMeaning_16 rfl rfl ?_
    refine go_get (v := vr w) X f_Reader_15 rd5.1 rfl d_Reader_takeMeaning_17 (s_varr (show M1 p 1 = w from (congrFun rd5.2.2.2.2.1 1).trans (rd5.2.2.2.2.2.1.2.1)) (by omega)) ?_
    refine go_iconst (v := 2) X d_Reader_takeMeaning_20 ?_
    refine go_dup2 X d_Reader_takeMeaning_21 rfl rfl ?_
    refine go_iald X rd5.2.2.2.1 (by omega) (by omega) d_Reader_takeMeaning_22 ?_
    refine go_top (v' := vi (WN 2)) X (by rw [rw8]) ?_
    refine go_iconst (v := 1) X d_Reader_takeMeaning_23 ?_
    refine go_iadd X d_Reader_takeMeaning_24 ?_
    refine go_iast X rd5.2.2.2.1 (by omega) (by omega) d_Reader_takeMeaning_25 ?_
    generalize hM21 : m_s M1 w 2 ((WN 2) + 1) = M20
    have rd22 : rdw sh M20 p s w (spV V p 0 0) t W Y v := by rw [← hM21]; exact rd5.wrn
    have rw24 : M20 w = inc WN 2 := by rw [← hM21]; exact row_inc rw8
    have fr23 : fr (fun z => z = p ∨ z = w) M M20 := fun z hz => by
      have hz1 : ¬ (z = p ∨ z = w) := hz
      rw [← hM21]; exact (m_s_a (by omega)).trans (fr7 z hz)
    refine go_vret X d_Reader_takeMeaning_26 rfl (by omega) (by omega) ?_
    rw [show tmV W Y p u V = spV V p 0 0 from if_pos (by omega), show tmW W u V WN = inc WN 2 from if_pos (by omega)]
    exact ⟨rfl, rfl, rfl, rd22, rw24, fr23⟩
