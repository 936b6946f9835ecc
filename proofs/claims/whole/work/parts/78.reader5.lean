theorem rdw.val {sh : s_S} {M M' : s_M} {p s w : Int} {V : Int → Int} {t : List Int} {W : Int → Int} {Y : Int → List Int} {v v' : List Int} (h : rdw sh M p s w V t W Y v) (ht : tv sh M' (p + 21) 60 v') (hf : fr (fun z => z = p + 21 ∨ z = p + 21 + 1) M M') : rdw sh M' p s w V t W Y v' := by
  obtain ⟨q1, q2, q3, q4, q5, q6, q7, q8, q9, q10, q11, q12⟩ := h
  exact ⟨q1, q2, q3, q4, (hf p (by omega)).trans q5, q6, q7, q8.mv (fun z z1 z2 => ⟨rfl, hf z (by omega)⟩), (hf (p + 3) (by omega)).trans q9, q10, q11.mv (fun z z1 z2 => ⟨rfl, hf z (by omega)⟩), ht⟩
/-- a character is added to the value: the value, whether a blank waits, whether it is cut -/
def av1 (v : List Int) (bw : Int) : List Int := if bw ≠ 0 ∧ 0 < v.length then ta 60 v 32 else v
def avv (c : Int) (v : List Int) (bw : Int) : List Int := if p_bl c = true then v else ta 60 (av1 v bw) c
def avV (c : Int) (v : List Int) (V : Int → Int) : Int → Int := if p_bl c = true then rset V 12 1 else rset (rset V 12 0) 13 (if V 13 ≠ 0 ∨ 60 ≤ (av1 v (V 12)).length then 1 else 0)
set_option maxHeartbeats 4000000 in
set_option maxRecDepth 100000 in
theorem c_Reader_addToValue (l : Launch) (D : va_G) {sh : s_S} {M : s_M} {sz p s w : Int} {V : Int → Int} {t : List Int} {W : Int → Int} {Y : Int → List Int} {v : List Int} (h : rdw sh M p s w V t W Y v) {c : Int} (hc : 0 ≤ c ∧ c < 65536) (hbw : 0 ≤ V 12 ∧ V 12 ≤ 1) (hvc : 0 ≤ V 13 ∧ V 13 ≤ 1) : Sp l D y_Reader_addToValue prog_8_method_23_code 2 none 3 0 0 [vr p, vi c] sh M sz (fun v' sh' M' sz' => v' = none ∧ sh' = sh ∧ sz' = sz ∧ rdw sh M' p s w (avV c v V) t W Y (avv c v (V 12)) ∧ fr (fun z => z = p ∨ z = p + 21 ∨ z = p + 22) M M') := by
  have hp0 := h.2.2.2.2.2.2.1
  have hch := h.2.2.2.2.2.2.2.1.rng
  have hln := h.2.2.2.2.2.2.2.1.len
  have hlv := h.2.2.2.2.2.2.2.2.2.2.2.len
  refine Sp.ofGo (own := "CiteForge$Reader") (nm := "addToValue") (by decide) rfl rfl (Nat.le_of_ble_eq_true rfl) (lv := [(0, vr p), (1, vi c)]) rfl ?_
  intro g X
  refine go_iload_n X d_Reader_addToValue_0 rfl rfl ?_
  refine go_cSf (st2 := [vi (s_b (p_bl c))]) (r := []) X k_Reader_180 (c_isBlank l D (by omega)) rfl rfl (by omega) (Nat.le_of_ble_eq_true rfl) d_Reader_addToValue_1 (by omega) (by omega) rfl ?_
  refine go_ifb_eq (tgt := 13) X d_Reader_addToValue_4 rfl (fun hq1 => ?_) (fun hq1 => ?_)
  · skip
    refine go_aload_n X d_Reader_addToValue_13 rfl rfl ?_
    refine go_get (v := vi (V 12)) X f_Reader_124 h.1 rfl d_Reader_addToValue_14 (congrArg (s_v .boolean) (show M p 12 = V 12 from (congrFun h.2.2.2.2.1 12).trans rfl)) ?_
    refine go_if_eq (tgt := 39) X d_Reader_addToValue_17 rfl (by omega) (fun hq2 => ?_) (fun hq2 => ?_)
    · skip
      have hav : av1 v (V 12) = v := if_neg (fun q => q.1 hq2)
      have rd3 : rdw sh M p s w (V) t W Y (av1 v (V 12)) := by rw [hav]; exact h
      have hl9 := rd3.2.2.2.2.2.2.2.2.2.2.2.len
      refine go_aload_n X d_Reader_addToValue_39 rfl rfl ?_
      refine go_iconst (v := 0) X d_Reader_addToValue_40 ?_
      refine go_put (x := 0) (v := vi 0) X f_Reader_124 rd3.1 rfl d_Reader_addToValue_41 rfl rfl rfl ?_
      generalize hM5 : m_s M p 12 0 = M4
      have rd6 : rdw sh M4 p s w (rset V 12 0) t W Y (av1 v (V 12)) := by rw [← hM5]; exact rd3.put (by decide)
      have fr7 : fr (fun z => z = p ∨ z = p + 21 ∨ z = p + 22) M M4 := fun z hz => by
        have hz1 : ¬ (z = p ∨ z = p + 21 ∨ z = p + 22) := hz
        rw [← hM5]; exact (m_s_a (by omega))
      refine go_aload_n X d_Reader_addToValue_44 rfl rfl ?_
      refine go_aload_n X d_Reader_addToValue_45 rfl rfl ?_
      refine go_get (v := vi (V 13)) X f_Reader_128 rd6.1 rfl d_Reader_addToValue_46 (congrArg (s_v .boolean) (show M4 p 13 = V 13 from (congrFun rd6.2.2.2.2.1 13).trans ((if_neg (by decide)).trans rfl))) ?_
      refine go_if_ne (tgt := 62) X d_Reader_addToValue_49 rfl (by omega) (fun hq8 => ?_) (fun hq8 => ?_)
      · skip
        refine go_iconst (v := 1) X d_Reader_addToValue_62 ?_
        refine go_goto (tgt := 67) X d_Reader_addToValue_63 rfl ?_
        refine go_put (x := 1) (v := vi 1) X f_Reader_128 rd3.1 rfl d_Reader_addToValue_67 rfl rfl rfl ?_
        generalize hM10 : m_s M4 p 13 1 = M9
        have rd11 : rdw sh M9 p s w (rset (rset V 12 0) 13 1) t W Y (av1 v (V 12)) := by rw [← hM10]; exact rd6.put (by decide)
        have fr12 : fr (fun z => z = p ∨ z = p + 21 ∨ z = p + 22) M M9 := fun z hz => by
          have hz1 : ¬ (z = p ∨ z = p + 21 ∨ z = p + 22) := hz
          rw [← hM10]; exact (m_s_a (by omega)).trans (fr7 z hz)
        refine go_aload_n X d_Reader_addToValue_70 rfl rfl ?_
        refine go_get (v := vr (p + 21)) X f_Reader_39 rd11.1 rfl d_Reader_addToValue_71 (s_vref (show M9 p 11 = p + 21 from (congrFun rd11.2.2.2.2.1 11).trans (rd11.2.2.2.2.2.1.2.2.2.2.2)) (by omega)) ?_
        refine go_iload_n X d_Reader_addToValue_74 rfl rfl ?_
        refine go_cV (st2 := []) (r := []) X k_Reader_54 (k_Text_add l D rd11.2.2.2.2.2.2.2.2.2.2.2 (c := c) (by omega)) rd11.2.2.2.2.2.2.2.2.2.2.2.1.1 rfl rfl (by omega) (Nat.le_of_ble_eq_true rfl) d_Reader_addToValue_75 (by omega) (by omega) (fun v' sh' M13 sz' hpp => ?_)
        obtain ⟨e14, e15, e16, tv17, fr18⟩ := hpp
        subst e14
        rw [e15, e16]
        show Go g 0 0 sh M13 sz 78 [(0, vr p), (1, vi c)] []
        have rd19 : rdw sh M13 p s w (rset (rset V 12 0) 13 1) t W Y (ta 60 (av1 v (V 12)) c) := rd11.val tv17 fr18
        have fr20 : fr (fun z => z = p ∨ z = p + 21 ∨ z = p + 22) M M13 := fun z hz => by
          have hz1 : ¬ (z = p ∨ z = p + 21 ∨ z = p + 22) := hz
          exact (fr18 z (by show ¬ (z = p + 21 ∨ z = p + 21 + 1); omega)).trans (fr12 z hz)
        refine go_vret X d_Reader_addToValue_78 rfl (by omega) (by omega) ?_
        rw [show avv c v (V 12) = ta 60 (av1 v (V 12)) c from if_neg (by rw [hq1]; decide), show avV c v V = rset (rset V 12 0) 13 (if V 13 ≠ 0 ∨ 60 ≤ (av1 v (V 12)).length then 1 else 0) from if_neg (by rw [hq1]; decide), show (if V 13 ≠ 0 ∨ 60 ≤ (av1 v (V 12)).length then (1 : Int) else 0) = 1 from if_pos (Or.inl hq8)]
        exact ⟨rfl, rfl, rfl, rd19, fr20⟩
      · skip
        refine go_aload_n X d_Reader_addToValue_52 rfl rfl ?_
        refine go_get (v := vr (p + 21)) X f_Reader_39 rd6.1 rfl d_Reader_addToValue_53 (s_vref (show M4 p 11 = p + 21 from (congrFun rd6.2.2.2.2.1 11).trans (rd6.2.2.2.2.2.1.2.2.2.2.2)) (by omega)) ?_
        refine go_cVf (st2 := [vi (s_b (decide ((60 : Int) ≤ ((av1 v (V 12)).length : Int)))), vr p]) (r := [vr p]) X k_Reader_186 (k_Text_isFull l D rd6.2.2.2.2.2.2.2.2.2.2.2) rd6.2.2.2.2.2.2.2.2.2.2.2.1.1 rfl rfl (by omega) (Nat.le_of_ble_eq_true rfl) d_Reader_addToValue_56 (by omega) (by omega) rfl ?_
        refine go_ifb_eq (tgt := 66) X d_Reader_addToValue_59 rfl (fun hq21 => ?_) (fun hq21 => ?_)
        · skip
          refine go_iconst (v := 0) X d_Reader_addToValue_66 ?_
          refine go_put (x := 0) (v := vi 0) X f_Reader_128 rd3.1 rfl d_Reader_addToValue_67 rfl rfl rfl ?_
          generalize hM23 : m_s M4 p 13 0 = M22
          have rd24 : rdw sh M22 p s w (rset (rset V 12 0) 13 0) t W Y (av1 v (V 12)) := by rw [← hM23]; exact rd6.put (by decide)
          have fr25 : fr (fun z => z = p ∨ z = p + 21 ∨ z = p + 22) M M22 := fun z hz => by
            have hz1 : ¬ (z = p ∨ z = p + 21 ∨ z = p + 22) := hz
            rw [← hM23]; exact (m_s_a (by omega)).trans (fr7 z hz)
          refine go_aload_n X d_Reader_addToValue_70 rfl rfl ?_
          refine go_get (v := vr (p + 21)) X f_Reader_39 rd24.1 rfl d_Reader_addToValue_71 (s_vref (show M22 p 11 = p + 21 from (congrFun rd24.2.2.2.2.1 11).trans (rd24.2.2.2.2.2.1.2.2.2.2.2)) (by omega)) ?_
          refine go_iload_n X d_Reader_addToValue_74 rfl rfl ?_
          refine go_cV (st2 := []) (r := []) X k_Reader_54 (k_Text_add l D rd24.2.2.2.2.2.2.2.2.2.2.2 (c := c) (by omega)) rd24.2.2.2.2.2.2.2.2.2.2.2.1.1 rfl rfl (by omega) (Nat.le_of_ble_eq_true rfl) d_Reader_addToValue_75 (by omega) (by omega) (fun v' sh' M26 sz' hpp => ?_)
          obtain ⟨e27, e28, e29, tv30, fr31⟩ := hpp
          subst e27
          rw [e28, e29]
          show Go g 0 0 sh M26 sz 78 [(0, vr p), (1, vi c)] []
          have rd32 : rdw sh M26 p s w (rset (rset V 12 0) 13 0) t W Y (ta 60 (av1 v (V 12)) c) := rd24.val tv30 fr31
          have fr33 : fr (fun z => z = p ∨ z = p + 21 ∨ z = p + 22) M M26 := fun z hz => by
            have hz1 : ¬ (z = p ∨ z = p + 21 ∨ z = p + 22) := hz
            exact (fr31 z (by show ¬ (z = p + 21 ∨ z = p + 21 + 1); omega)).trans (fr25 z hz)
          refine go_vret X d_Reader_addToValue_78 rfl (by omega) (by omega) ?_
          rw [show avv c v (V 12) = ta 60 (av1 v (V 12)) c from if_neg (by rw [hq1]; decide), show avV c v V = rset (rset V 12 0) 13 (if V 13 ≠ 0 ∨ 60 ≤ (av1 v (V 12)).length then 1 else 0) from if_neg (by rw [hq1]; decide), show (if V 13 ≠ 0 ∨ 60 ≤ (av1 v (V 12)).length then (1 : Int) else 0) = 0 from if_neg (fun q => q.elim (fun q => by omega) (fun q => by have := hq21; simp at this; omega))]
          exact ⟨rfl, rfl, rfl, rd32, fr33⟩
        · skip
          refine go_iconst (v := 1) X d_Reader_addToValue_62 ?_
          refine go_goto (tgt := 67) X d_Reader_addToValue_63 rfl ?_
          refine go_put (x := 1) (v := vi 1) X f_Reader_128 rd3.1 rfl d_Reader_addToValue_67 rfl rfl rfl ?_
          generalize hM35 : m_s M4 p 13 1 = M34
          have rd36 : rdw sh M34 p s w (rset (rset V 12 0) 13 1) t W Y (av1 v (V 12)) := by rw [← hM35]; exact rd6.put (by decide)
          have fr37 : fr (fun z => z = p ∨ z = p + 21 ∨ z = p + 22) M M34 := fun z hz => by
            have hz1 : ¬ (z = p ∨ z = p + 21 ∨ z = p + 22) := hz
            rw [← hM35]; exact (m_s_a (by omega)).trans (fr7 z hz)
          refine go_aload_n X d_Reader_addToValue_70 rfl rfl ?_
          refine go_get (v := vr (p + 21)) X f_Reader_39 rd36.1 rfl d_Reader_addToValue_71 (s_vref (show M34 p 11 = p + 21 from (congrFun rd36.2.2.2.2.1 11).trans (rd36.2.2.2.2.2.1.2.2.2.2.2)) (by omega)) ?_
          refine go_iload_n X d_Reader_addToValue_74 rfl rfl ?_
          refine go_cV (st2 := []) (r := []) X k_Reader_54 (k_Text_add l D rd36.2.2.2.2.2.2.2.2.2.2.2 (c := c) (by omega)) rd36.2.2.2.2.2.2.2.2.2.2.2.1.1 rfl rfl (by omega) (Nat.le_of_ble_eq_true rfl) d_Reader_addToValue_75 (by omega) (by omega) (fun v' sh' M38 sz' hpp => ?_)
          obtain ⟨e39, e40, e41, tv42, fr43⟩ := hpp
          subst e39
          rw [e40, e41]
          show Go g 0 0 sh M38 sz 78 [(0, vr p), (1, vi c)] []
          have rd44 : rdw sh M38 p s w (rset (rset V 12 0) 13 1) t W Y (ta 60 (av1 v (V 12)) c) := rd36.val tv42 fr43
          have fr45 : fr (fun z => z = p ∨ z = p + 21 ∨ z = p + 22) M M38 := fun z hz => by
            have hz1 : ¬ (z = p ∨ z = p + 21 ∨ z = p + 22) := hz
            exact (fr43 z (by show ¬ (z = p + 21 ∨ z = p + 21 + 1); omega)).trans (fr37 z hz)
          refine go_vret X d_Reader_addToValue_78 rfl (by omega) (by omega) ?_
          rw [show avv c v (V 12) = ta 60 (av1 v (V 12)) c from if_neg (by rw [hq1]; decide), show avV c v V = rset (rset V 12 0) 13 (if V 13 ≠ 0 ∨ 60 ≤ (av1 v (V 12)).length then 1 else 0) from if_neg (by rw [hq1]; decide), show (if V 13 ≠ 0 ∨ 60 ≤ (av1 v (V 12)).length then (1 : Int) else 0) = 1 from if_pos (Or.inr (by have := hq21; simp at this; omega))]
          exact ⟨rfl, rfl, rfl, rd44, fr45⟩
    · skip
      refine go_aload_n X d_Reader_addToValue_20 rfl rfl ?_
      refine go_get (v := vr (p + 21)) X f_Reader_39 h.1 rfl d_Reader_addToValue_21 (s_vref (show M p 11 = p + 21 from (congrFun h.2.2.2.2.1 11).trans (h.2.2.2.2.2.1.2.2.2.2.2)) (by omega)) ?_
      refine go_cVf (st2 := [vi (v.length : Int)]) (r := []) X k_Reader_50 (k_Text_size l D h.2.2.2.2.2.2.2.2.2.2.2) h.2.2.2.2.2.2.2.2.2.2.2.1.1 rfl rfl (by omega) (Nat.le_of_ble_eq_true rfl) d_Reader_addToValue_24 (by omega) (by omega) rfl ?_
      refine go_if_le (tgt := 39) X d_Reader_addToValue_27 rfl (by omega) (fun hq46 => ?_) (fun hq46 => ?_)
      · skip
        have hav : av1 v (V 12) = v := if_neg (fun q => by omega)
        have rd47 : rdw sh M p s w (V) t W Y (av1 v (V 12)) := by rw [hav]; exact h
        have hl9 := rd47.2.2.2.2.2.2.2.2.2.2.2.len
        refine go_aload_n X d_Reader_addToValue_39 rfl rfl ?_
        refine go_iconst (v := 0) X d_Reader_addToValue_40 ?_
        refine go_put (x := 0) (v := vi 0) X f_Reader_124 rd47.1 rfl d_Reader_addToValue_41 rfl rfl rfl ?_
        generalize hM49 : m_s M p 12 0 = M48
        have rd50 : rdw sh M48 p s w (rset V 12 0) t W Y (av1 v (V 12)) := by rw [← hM49]; exact rd47.put (by decide)
        have fr51 : fr (fun z => z = p ∨ z = p + 21 ∨ z = p + 22) M M48 := fun z hz => by
          have hz1 : ¬ (z = p ∨ z = p + 21 ∨ z = p + 22) := hz
          rw [← hM49]; exact (m_s_a (by omega))
        refine go_aload_n X d_Reader_addToValue_44 rfl rfl ?_
        refine go_aload_n X d_Reader_addToValue_45 rfl rfl ?_
        refine go_get (v := vi (V 13)) X f_Reader_128 rd50.1 rfl d_Reader_addToValue_46 (congrArg (s_v .boolean) (show M48 p 13 = V 13 from (congrFun rd50.2.2.2.2.1 13).trans ((if_neg (by decide)).trans rfl))) ?_
        refine go_if_ne (tgt := 62) X d_Reader_addToValue_49 rfl (by omega) (fun hq52 => ?_) (fun hq52 => ?_)
        · skip
          refine go_iconst (v := 1) X d_Reader_addToValue_62 ?_
          refine go_goto (tgt := 67) X d_Reader_addToValue_63 rfl ?_
          refine go_put (x := 1) (v := vi 1) X f_Reader_128 rd47.1 rfl d_Reader_addToValue_67 rfl rfl rfl ?_
          generalize hM54 : m_s M48 p 13 1 = M53
          have rd55 : rdw sh M53 p s w (rset (rset V 12 0) 13 1) t W Y (av1 v (V 12)) := by rw [← hM54]; exact rd50.put (by decide)
          have fr56 : fr (fun z => z = p ∨ z = p + 21 ∨ z = p + 22) M M53 := fun z hz => by
            have hz1 : ¬ (z = p ∨ z = p + 21 ∨ z = p + 22) := hz
            rw [← hM54]; exact (m_s_a (by omega)).trans (fr51 z hz)
          refine go_aload_n X d_Reader_addToValue_70 rfl rfl ?_
          refine go_get (v := vr (p + 21)) X f_Reader_39 rd55.1 rfl d_Reader_addToValue_71 (s_vref (show M53 p 11 = p + 21 from (congrFun rd55.2.2.2.2.1 11).trans (rd55.2.2.2.2.2.1.2.2.2.2.2)) (by omega)) ?_
          refine go_iload_n X d_Reader_addToValue_74 rfl rfl ?_
          refine go_cV (st2 := []) (r := []) X k_Reader_54 (k_Text_add l D rd55.2.2.2.2.2.2.2.2.2.2.2 (c := c) (by omega)) rd55.2.2.2.2.2.2.2.2.2.2.2.1.1 rfl rfl (by omega) (Nat.le_of_ble_eq_true rfl) d_Reader_addToValue_75 (by omega) (by omega) (fun v' sh' M57 sz' hpp => ?_)
          obtain ⟨e58, e59, e60, tv61, fr62⟩ := hpp
          subst e58
          rw [e59, e60]
          show Go g 0 0 sh M57 sz 78 [(0, vr p), (1, vi c)] []
          have rd63 : rdw sh M57 p s w (rset (rset V 12 0) 13 1) t W Y (ta 60 (av1 v (V 12)) c) := rd55.val tv61 fr62
          have fr64 : fr (fun z => z = p ∨ z = p + 21 ∨ z = p + 22) M M57 := fun z hz => by
            have hz1 : ¬ (z = p ∨ z = p + 21 ∨ z = p + 22) := hz
            exact (fr62 z (by show ¬ (z = p + 21 ∨ z = p + 21 + 1); omega)).trans (fr56 z hz)
          refine go_vret X d_Reader_addToValue_78 rfl (by omega) (by omega) ?_
          rw [show avv c v (V 12) = ta 60 (av1 v (V 12)) c from if_neg (by rw [hq1]; decide), show avV c v V = rset (rset V 12 0) 13 (if V 13 ≠ 0 ∨ 60 ≤ (av1 v (V 12)).length then 1 else 0) from if_neg (by rw [hq1]; decide), show (if V 13 ≠ 0 ∨ 60 ≤ (av1 v (V 12)).length then (1 : Int) else 0) = 1 from if_pos (Or.inl hq52)]
          exact ⟨rfl, rfl, rfl, rd63, fr64⟩
        · skip
          refine go_aload_n X d_Reader_addToValue_52 rfl rfl ?_
          refine go_get (v := vr (p + 21)) X f_Reader_39 rd50.1 rfl d_Reader_addToValue_53 (s_vref (show M48 p 11 = p + 21 from (congrFun rd50.2.2.2.2.1 11).trans (rd50.2.2.2.2.2.1.2.2.2.2.2)) (by omega)) ?_
          refine go_cVf (st2 := [vi (s_b (decide ((60 : Int) ≤ ((av1 v (V 12)).length : Int)))), vr p]) (r := [vr p]) X k_Reader_186 (k_Text_isFull l D rd50.2.2.2.2.2.2.2.2.2.2.2) rd50.2.2.2.2.2.2.2.2.2.2.2.1.1 rfl rfl (by omega) (Nat.le_of_ble_eq_true rfl) d_Reader_addToValue_56 (by omega) (by omega) rfl ?_
          refine go_ifb_eq (tgt := 66) X d_Reader_addToValue_59 rfl (fun hq65 => ?_) (fun hq65 => ?_)
          · skip
            refine go_iconst (v := 0) X d_Reader_addToValue_66 ?_
            refine go_put (x := 0) (v := vi 0) X f_Reader_128 rd47.1 rfl d_Reader_addToValue_67 rfl rfl rfl ?_
            generalize hM67 : m_s M48 p 13 0 = M66
            have rd68 : rdw sh M66 p s w (rset (rset V 12 0) 13 0) t W Y (av1 v (V 12)) := by rw [← hM67]; exact rd50.put (by decide)
            have fr69 : fr (fun z => z = p ∨ z = p + 21 ∨ z = p + 22) M M66 := fun z hz => by
              have hz1 : ¬ (z = p ∨ z = p + 21 ∨ z = p + 22) := hz
              rw [← hM67]; exact (m_s_a (by omega)).trans (fr51 z hz)
            refine go_aload_n X d_Reader_addToValue_70 rfl rfl ?_
            refine go_get (v := vr (p + 21)) X f_Reader_39 rd68.1 rfl d_Reader_addToValue_71 (s_vref (show M66 p 11 = p + 21 from (congrFun rd68.2.2.2.2.1 11).trans (rd68.2.2.2.2.2.1.2.2.2.2.2)) (by omega)) ?_
            refine go_iload_n X d_Reader_addToValue_74 rfl rfl ?_
            refine go_cV (st2 := []) (r := []) X k_Reader_54 (k_Text_add l D rd68.2.2.2.2.2.2.2.2.2.2.2 (c := c) (by omega)) rd68.2.2.2.2.2.2.2.2.2.2.2.1.1 rfl rfl (by omega) (Nat.le_of_ble_eq_true rfl) d_Reader_addToValue_75 (by omega) (by omega) (fun v' sh' M70 sz' hpp => ?_)
            obtain ⟨e71, e72, e73, tv74, fr75⟩ := hpp
            subst e71
            rw [e72, e73]
            show Go g 0 0 sh M70 sz 78 [(0, vr p), (1, vi c)] []
            have rd76 : rdw sh M70 p s w (rset (rset V 12 0) 13 0) t W Y (ta 60 (av1 v (V 12)) c) := rd68.val tv74 fr75
            have fr77 : fr (fun z => z = p ∨ z = p + 21 ∨ z = p + 22) M M70 := fun z hz => by
              have hz1 : ¬ (z = p ∨ z = p + 21 ∨ z = p + 22) := hz
              exact (fr75 z (by show ¬ (z = p + 21 ∨ z = p + 21 + 1); omega)).trans (fr69 z hz)
            refine go_vret X d_Reader_addToValue_78 rfl (by omega) (by omega) ?_
            rw [show avv c v (V 12) = ta 60 (av1 v (V 12)) c from if_neg (by rw [hq1]; decide), show avV c v V = rset (rset V 12 0) 13 (if V 13 ≠ 0 ∨ 60 ≤ (av1 v (V 12)).length then 1 else 0) from if_neg (by rw [hq1]; decide), show (if V 13 ≠ 0 ∨ 60 ≤ (av1 v (V 12)).length then (1 : Int) else 0) = 0 from if_neg (fun q => q.elim (fun q => by omega) (fun q => by have := hq65; simp at this; omega))]
            exact ⟨rfl, rfl, rfl, rd76, fr77⟩
          · skip
            refine go_iconst (v := 1) X d_Reader_addToValue_62 ?_
            refine go_goto (tgt := 67) X d_Reader_addToValue_63 rfl ?_
            refine go_put (x := 1) (v := vi 1) X f_Reader_128 rd47.1 rfl d_Reader_addToValue_67 rfl rfl rfl ?_
            generalize hM79 : m_s M48 p 13 1 = M78
            have rd80 : rdw sh M78 p s w (rset (rset V 12 0) 13 1) t W Y (av1 v (V 12)) := by rw [← hM79]; exact rd50.put (by decide)
            have fr81 : fr (fun z => z = p ∨ z = p + 21 ∨ z = p + 22) M M78 := fun z hz => by
              have hz1 : ¬ (z = p ∨ z = p + 21 ∨ z = p + 22) := hz
              rw [← hM79]; exact (m_s_a (by omega)).trans (fr51 z hz)
            refine go_aload_n X d_Reader_addToValue_70 rfl rfl ?_
            refine go_get (v := vr (p + 21)) X f_Reader_39 rd80.1 rfl d_Reader_addToValue_71 (s_vref (show M78 p 11 = p + 21 from (congrFun rd80.2.2.2.2.1 11).trans (rd80.2.2.2.2.2.1.2.2.2.2.2)) (by omega)) ?_
            refine go_iload_n X d_Reader_addToValue_74 rfl rfl ?_
            refine go_cV (st2 := []) (r := []) X k_Reader_54 (k_Text_add l D rd80.2.2.2.2.2.2.2.2.2.2.2 (c := c) (by omega)) rd80.2.2.2.2.2.2.2.2.2.2.2.1.1 rfl rfl (by omega) (Nat.le_of_ble_eq_true rfl) d_Reader_addToValue_75 (by omega) (by omega) (fun v' sh' M82 sz' hpp => ?_)
            obtain ⟨e83, e84, e85, tv86, fr87⟩ := hpp
            subst e83
            rw [e84, e85]
            show Go g 0 0 sh M82 sz 78 [(0, vr p), (1, vi c)] []
            have rd88 : rdw sh M82 p s w (rset (rset V 12 0) 13 1) t W Y (ta 60 (av1 v (V 12)) c) := rd80.val tv86 fr87
            have fr89 : fr (fun z => z = p ∨ z = p + 21 ∨ z = p + 22) M M82 := fun z hz => by
              have hz1 : ¬ (z = p ∨ z = p + 21 ∨ z = p + 22) := hz
              exact (fr87 z (by show ¬ (z = p + 21 ∨ z = p + 21 + 1); omega)).trans (fr81 z hz)
            refine go_vret X d_Reader_addToValue_78 rfl (by omega) (by omega) ?_
            rw [show avv c v (V 12) = ta 60 (av1 v (V 12)) c from if_neg (by rw [hq1]; decide), show avV c v V = rset (rset V 12 0) 13 (if V 13 ≠ 0 ∨ 60 ≤ (av1 v (V 12)).length then 1 else 0) from if_neg (by rw [hq1]; decide), show (if V 13 ≠ 0 ∨ 60 ≤ (av1 v (V 12)).length then (1 : Int) else 0) = 1 from if_pos (Or.inr (by have := hq65; simp at this; omega))]
            exact ⟨rfl, rfl, rfl, rd88, fr89⟩
      · skip
        refine go_aload_n X d_Reader_addToValue_30 rfl rfl ?_
        refine go_get (v := vr (p + 21)) X f_Reader_39 h.1 rfl d_Reader_addToValue_31 (s_vref (show M p 11 = p + 21 from (congrFun h.2.2.2.2.1 11).trans (h.2.2.2.2.2.1.2.2.2.2.2)) (by omega)) ?_
        refine go_bipush (v := 32) X d_Reader_addToValue_34 (by decide) ?_
        refine go_cV (st2 := []) (r := []) X k_Reader_54 (k_Text_add l D h.2.2.2.2.2.2.2.2.2.2.2 (c := 32) (by omega)) h.2.2.2.2.2.2.2.2.2.2.2.1.1 rfl rfl (by omega) (Nat.le_of_ble_eq_true rfl) d_Reader_addToValue_36 (by omega) (by omega) (fun v' sh' M90 sz' hpp => ?_)
        obtain ⟨e91, e92, e93, tv94, fr95⟩ := hpp
        subst e91
        rw [e92, e93]
        show Go g 0 0 sh M90 sz 39 [(0, vr p), (1, vi c)] []
        have rd96 : rdw sh M90 p s w (V) t W Y (ta 60 v 32) := h.val tv94 fr95
        have fr97 : fr (fun z => z = p ∨ z = p + 21 ∨ z = p + 22) M M90 := fun z hz => by
          have hz1 : ¬ (z = p ∨ z = p + 21 ∨ z = p + 22) := hz
          exact (fr95 z (by show ¬ (z = p + 21 ∨ z = p + 21 + 1); omega))
        have hav : av1 v (V 12) = ta 60 v 32 := if_pos ⟨hq2, by omega⟩
        have rd98 : rdw sh M90 p s w (V) t W Y (av1 v (V 12)) := by rw [hav]; exact rd96
        have hl9 := rd98.2.2.2.2.2.2.2.2.2.2.2.len
        refine go_aload_n X d_Reader_addToValue_39 rfl rfl ?_
        refine go_iconst (v := 0) X d_Reader_addToValue_40 ?_
        refine go_put (x := 0) (v := vi 0) X f_Reader_124 rd98.1 rfl d_Reader_addToValue_41 rfl rfl rfl ?_
        generalize hM100 : m_s M90 p 12 0 = M99
        have rd101 : rdw sh M99 p s w (rset V 12 0) t W Y (av1 v (V 12)) := by rw [← hM100]; exact rd98.put (by decide)
        have fr102 : fr (fun z => z = p ∨ z = p + 21 ∨ z = p + 22) M M99 := fun z hz => by
          have hz1 : ¬ (z = p ∨ z = p + 21 ∨ z = p + 22) := hz
          rw [← hM100]; exact (m_s_a (by omega)).trans (fr97 z hz)
        refine go_aload_n X d_Reader_addToValue_44 rfl rfl ?_
        refine go_aload_n X d_Reader_addToValue_45 rfl rfl ?_
        refine go_get (v := vi (V 13)) X f_Reader_128 rd101.1 rfl d_Reader_addToValue_46 (congrArg (s_v .boolean) (show M99 p 13 = V 13 from (congrFun rd101.2.2.2.2.1 13).trans ((if_neg (by decide)).trans rfl))) ?_
        refine go_if_ne (tgt := 62) X d_Reader_addToValue_49 rfl (by omega) (fun hq103 => ?_) (fun hq103 => ?_)
        · skip
          refine go_iconst (v := 1) X d_Reader_addToValue_62 ?_
          refine go_goto (tgt := 67) X d_Reader_addToValue_63 rfl ?_
          refine go_put (x := 1) (v := vi 1) X f_Reader_128 rd98.1 rfl d_Reader_addToValue_67 rfl rfl rfl ?_
          generalize hM105 : m_s M99 p 13 1 = M104
          have rd106 : rdw sh M104 p s w (rset (rset V 12 0) 13 1) t W Y (av1 v (V 12)) := by rw [← hM105]; exact rd101.put (by decide)
          have fr107 : fr (fun z => z = p ∨ z = p + 21 ∨ z = p + 22) M M104 := fun z hz => by
            have hz1 : ¬ (z = p ∨ z = p + 21 ∨ z = p + 22) := hz
            rw [← hM105]; exact (m_s_a (by omega)).trans (fr102 z hz)
          refine go_aload_n X d_Reader_addToValue_70 rfl rfl ?_
          refine go_get (v := vr (p + 21)) X f_Reader_39 rd106.1 rfl d_Reader_addToValue_71 (s_vref (show M104 p 11 = p + 21 from (congrFun rd106.2.2.2.2.1 11).trans (rd106.2.2.2.2.2.1.2.2.2.2.2)) (by omega)) ?_
          refine go_iload_n X d_Reader_addToValue_74 rfl rfl ?_
          refine go_cV (st2 := []) (r := []) X k_Reader_54 (k_Text_add l D rd106.2.2.2.2.2.2.2.2.2.2.2 (c := c) (by omega)) rd106.2.2.2.2.2.2.2.2.2.2.2.1.1 rfl rfl (by omega) (Nat.le_of_ble_eq_true rfl) d_Reader_addToValue_75 (by omega) (by omega) (fun v' sh' M108 sz' hpp => ?_)
          obtain ⟨e109, e110, e111, tv112, fr113⟩ := hpp
          subst e109
          rw [e110, e111]
          show Go g 0 0 sh M108 sz 78 [(0, vr p), (1, vi c)] []
          have rd114 : rdw sh M108 p s w (rset (rset V 12 0) 13 1) t W Y (ta 60 (av1 v (V 12)) c) := rd106.val tv112 fr113
          have fr115 : fr (fun z => z = p ∨ z = p + 21 ∨ z = p + 22) M M108 := fun z hz => by
            have hz1 : ¬ (z = p ∨ z = p + 21 ∨ z = p + 22) := hz
            exact (fr113 z (by show ¬ (z = p + 21 ∨ z = p + 21 + 1); omega)).trans (fr107 z hz)
          refine go_vret X d_Reader_addToValue_78 rfl (by omega) (by omega) ?_
          rw [show avv c v (V 12) = ta 60 (av1 v (V 12)) c from if_neg (by rw [hq1]; decide), show avV c v V = rset (rset V 12 0) 13 (if V 13 ≠ 0 ∨ 60 ≤ (av1 v (V 12)).length then 1 else 0) from if_neg (by rw [hq1]; decide), show (if V 13 ≠ 0 ∨ 60 ≤ (av1 v (V 12)).length then (1 : Int) else 0) = 1 from if_pos (Or.inl hq103)]
          exact ⟨rfl, rfl, rfl, rd114, fr115⟩
        · skip
          refine go_aload_n X d_Reader_addToValue_52 rfl rfl ?_
          refine go_get (v := vr (p + 21)) X f_Reader_39 rd101.1 rfl d_Reader_addToValue_53 (s_vref (show M99 p 11 = p + 21 from (congrFun rd101.2.2.2.2.1 11).trans (rd101.2.2.2.2.2.1.2.2.2.2.2)) (by omega)) ?_
          refine go_cVf (st2 := [vi (s_b (decide ((60 : Int) ≤ ((av1 v (V 12)).length : Int)))), vr p]) (r := [vr p]) X k_Reader_186 (k_Text_isFull l D rd101.2.2.2.2.2.2.2.2.2.2.2) rd101.2.2.2.2.2.2.2.2.2.2.2.1.1 rfl rfl (by omega) (Nat.le_of_ble_eq_true rfl) d_Reader_addToValue_56 (by omega) (by omega) rfl ?_
          refine go_ifb_eq (tgt := 66) X d_Reader_addToValue_59 rfl (fun hq116 => ?_) (fun hq116 => ?_)
          · skip
            refine go_iconst (v := 0) X d_Reader_addToValue_66 ?_
            refine go_put (x := 0) (v := vi 0) X f_Reader_128 rd98.1 rfl d_Reader_addToValue_67 rfl rfl rfl ?_
            generalize hM118 : m_s M99 p 13 0 = M117
            have rd119 : rdw sh M117 p s w (rset (rset V 12 0) 13 0) t W Y (av1 v (V 12)) := by rw [← hM118]; exact rd101.put (by decide)
            have fr120 : fr (fun z => z = p ∨ z = p + 21 ∨ z = p + 22) M M117 := fun z hz => by
              have hz1 : ¬ (z = p ∨ z = p + 21 ∨ z = p + 22) := hz
              rw [← hM118]; exact (m_s_a (by omega)).trans (fr102 z hz)
            refine go_aload_n X d_Reader_addToValue_70 rfl rfl ?_
            refine go_get (v := vr (p + 21)) X f_Reader_39 rd119.1 rfl d_Reader_addToValue_71 (s_vref (show M117 p 11 = p + 21 from (congrFun rd119.2.2.2.2.1 11).trans (rd119.2.2.2.2.2.1.2.2.2.2.2)) (by omega)) ?_
            refine go_iload_n X d_Reader_addToValue_74 rfl rfl ?_
            refine go_cV (st2 := []) (r := []) X k_Reader_54 (k_Text_add l D rd119.2.2.2.2.2.2.2.2.2.2.2 (c := c) (by omega)) rd119.2.2.2.2.2.2.2.2.2.2.2.1.1 rfl rfl (by omega) (Nat.le_of_ble_eq_true rfl) d_Reader_addToValue_75 (by omega) (by omega) (fun v' sh' M121 sz' hpp => ?_)
            obtain ⟨e122, e123, e124, tv125, fr126⟩ := hpp
            subst e122
            rw [e123, e124]
            show Go g 0 0 sh M121 sz 78 [(0, vr p), (1, vi c)] []
            have rd127 : rdw sh M121 p s w (rset (rset V 12 0) 13 0) t W Y (ta 60 (av1 v (V 12)) c) := rd119.val tv125 fr126
            have fr128 : fr (fun z => z = p ∨ z = p + 21 ∨ z = p + 22) M M121 := fun z hz => by
              have hz1 : ¬ (z = p ∨ z = p + 21 ∨ z = p + 22) := hz
              exact (fr126 z (by show ¬ (z = p + 21 ∨ z = p + 21 + 1); omega)).trans (fr120 z hz)
            refine go_vret X d_Reader_addToValue_78 rfl (by omega) (by omega) ?_
            rw [show avv c v (V 12) = ta 60 (av1 v (V 12)) c from if_neg (by rw [hq1]; decide), show avV c v V = rset (rset V 12 0) 13 (if V 13 ≠ 0 ∨ 60 ≤ (av1 v (V 12)).length then 1 else 0) from if_neg (by rw [hq1]; decide), show (if V 13 ≠ 0 ∨ 60 ≤ (av1 v (V 12)).length then (1 : Int) else 0) = 0 from if_neg (fun q => q.elim (fun q => by omega) (fun q => by have := hq116; simp at this; omega))]
            exact ⟨rfl, rfl, rfl, rd127, fr128⟩
          · skip
            refine go_iconst (v := 1) X d_Reader_addToValue_62 ?_
            refine go_goto (tgt := 67) X d_Reader_addToValue_63 rfl ?_
            refine go_put (x := 1) (v := vi 1) X f_Reader_128 rd98.1 rfl d_Reader_addToValue_67 rfl rfl rfl ?_
            generalize hM130 : m_s M99 p 13 1 = M129
            have rd131 : rdw sh M129 p s w (rset (rset V 12 0) 13 1) t W Y (av1 v (V 12)) := by rw [← hM130]; exact rd101.put (by decide)
            have fr132 : fr (fun z => z = p ∨ z = p + 21 ∨ z = p + 22) M M129 := fun z hz => by
              have hz1 : ¬ (z = p ∨ z = p + 21 ∨ z = p + 22) := hz
              rw [← hM130]; exact (m_s_a (by omega)).trans (fr102 z hz)
            refine go_aload_n X d_Reader_addToValue_70 rfl rfl ?_
            refine go_get (v := vr (p + 21)) X f_Reader_39 rd131.1 rfl d_Reader_addToValue_71 (s_vref (show M129 p 11 = p + 21 from (congrFun rd131.2.2.2.2.1 11).trans (rd131.2.2.2.2.2.1.2.2.2.2.2)) (by omega)) ?_
            refine go_iload_n X d_Reader_addToValue_74 rfl rfl ?_
            refine go_cV (st2 := []) (r := []) X k_Reader_54 (k_Text_add l D rd131.2.2.2.2.2.2.2.2.2.2.2 (c := c) (by omega)) rd131.2.2.2.2.2.2.2.2.2.2.2.1.1 rfl rfl (by omega) (Nat.le_of_ble_eq_true rfl) d_Reader_addToValue_75 (by omega) (by omega) (fun v' sh' M133 sz' hpp => ?_)
            obtain ⟨e134, e135, e136, tv137, fr138⟩ := hpp
            subst e134
            rw [e135, e136]
            show Go g 0 0 sh M133 sz 78 [(0, vr p), (1, vi c)] []
            have rd139 : rdw sh M133 p s w (rset (rset V 12 0) 13 1) t W Y (ta 60 (av1 v (V 12)) c) := rd131.val tv137 fr138
            have fr140 : fr (fun z => z = p ∨ z = p + 21 ∨ z = p + 22) M M133 := fun z hz => by
              have hz1 : ¬ (z = p ∨ z = p + 21 ∨ z = p + 22) := hz
              exact (fr138 z (by show ¬ (z = p + 21 ∨ z = p + 21 + 1); omega)).trans (fr132 z hz)
            refine go_vret X d_Reader_addToValue_78 rfl (by omega) (by omega) ?_
            rw [show avv c v (V 12) = ta 60 (av1 v (V 12)) c from if_neg (by rw [hq1]; decide), show avV c v V = rset (rset V 12 0) 13 (if V 13 ≠ 0 ∨ 60 ≤ (av1 v (V 12)).length then 1 else 0) from if_neg (by rw [hq1]; decide), show (if V 13 ≠ 0 ∨ 60 ≤ (av1 v (V 12)).length then (1 : Int) else 0) = 1 from if_pos (Or.inr (by have := hq116; simp at this; omega))]
            exact ⟨rfl, rfl, rfl, rd139, fr140⟩
  · skip
    refine go_aload_n X d_Reader_addToValue_7 rfl rfl ?_
    refine go_iconst (v := 1) X d_Reader_addToValue_8 ?_
    refine go_put (x := 1) (v := vi 1) X f_Reader_124 h.1 rfl d_Reader_addToValue_9 rfl rfl rfl ?_
    generalize hM142 : m_s M p 12 1 = M141
    have rd143 : rdw sh M141 p s w (rset V 12 1) t W Y v := by rw [← hM142]; exact h.put (by decide)
    have fr144 : fr (fun z => z = p ∨ z = p + 21 ∨ z = p + 22) M M141 := fun z hz => by
      have hz1 : ¬ (z = p ∨ z = p + 21 ∨ z = p + 22) := hz
      rw [← hM142]; exact (m_s_a (by omega))
    refine go_vret X d_Reader_addToValue_12 rfl (by omega) (by omega) ?_
    rw [show avv c v (V 12) = v from if_pos hq1, show avV c v V = rset V 12 1 from if_pos hq1]
    exact ⟨rfl, rfl, rfl, rd143, fr144⟩
