/-- the reader, its numbers as a row V -/
def rfx (V : Int → Int) (p s w : Int) : Prop := V 0 = s ∧ V 1 = w ∧ V 2 = p + 1 ∧ V 3 = p + 3 ∧ V 4 = p + 4 ∧ V 11 = p + 21
def rdw (sh : s_S) (M : s_M) (p s w : Int) (V : Int → Int) (t : List Int) (W : Int → Int) (Y : Int → List Int) (v : List Int) : Prop := sh p = some (.inl (3, ts_Reader)) ∧ sh (p + 3) = some (.inr (.long, 8)) ∧ sh (p + 4) = some (.inr (.object "CiteForge$Text", 8)) ∧ sh w = some (.inr (.int, 10)) ∧ M p = V ∧ rfx V p s w ∧ (0 ≤ p ∧ 0 ≤ w ∧ w < p ∧ 0 ≤ s) ∧ tv sh M (p + 1) 320 t ∧ M (p + 3) = W ∧ (∀ i, rL (W i)) ∧ txs sh M (p + 4) 8 Y ∧ tv sh M (p + 21) 60 v
theorem rfx.set {V : Int → Int} {p s w j x : Int} (h : rfx V p s w) (hj : j ≠ 0 ∧ j ≠ 1 ∧ j ≠ 2 ∧ j ≠ 3 ∧ j ≠ 4 ∧ j ≠ 11) : rfx (rset V j x) p s w := by
  obtain ⟨q1, q2, q3, q4, q5, q6⟩ := h
  obtain ⟨j1, j2, j3, j4, j5, j6⟩ := hj
  exact ⟨(if_neg (fun e => j1 e.symm)).trans q1, (if_neg (fun e => j2 e.symm)).trans q2, (if_neg (fun e => j3 e.symm)).trans q3, (if_neg (fun e => j4 e.symm)).trans q4, (if_neg (fun e => j5 e.symm)).trans q5, (if_neg (fun e => j6 e.symm)).trans q6⟩
theorem rset_rset {V : Int → Int} {j x y : Int} : rset (rset V j x) j y = rset V j y := by
  funext i
  unfold rset
  by_cases h : i = j
  · rw [if_pos h, if_pos h]
  · rw [if_neg h, if_neg h, if_neg h]
theorem rset_self {V : Int → Int} {j : Int} : rset V j (V j) = V := by
  funext i
  unfold rset
  by_cases h : i = j
  · rw [if_pos h, h]
  · rw [if_neg h]
theorem rset_at {V : Int → Int} {j x : Int} : rset V j x j = x := if_pos rfl
/-- one number of the reader has been written -/
theorem rdw.put {sh : s_S} {M : s_M} {p s w j x : Int} {V : Int → Int} {t : List Int} {W : Int → Int} {Y : Int → List Int} {v : List Int} (h : rdw sh M p s w V t W Y v) (hj : j ≠ 0 ∧ j ≠ 1 ∧ j ≠ 2 ∧ j ≠ 3 ∧ j ≠ 4 ∧ j ≠ 11) : rdw sh (m_s M p j x) p s w (rset V j x) t W Y v := by
  obtain ⟨q1, q2, q3, q4, q5, q6, q7, q8, q9, q10, q11, q12⟩ := h
  exact ⟨q1, q2, q3, q4, row_set q5, q6.set hj, q7, q8.mv (as_set (by omega)), (m_s_a (by omega)).trans q9, q10, q11.mv (as_set (by omega)), q12.mv (as_set (by omega))⟩
/-- the place behind the blanks -/
def pbl (t : List Int) : Nat → Int → Int
  | 0, i => i
  | m + 1, i => if p_bl (tg t i) = true then pbl t m (i + 1) else i
def pb (t : List Int) (i : Int) : Int := pbl t ((t.length : Int) - i).toNat i
theorem pb_go {t : List Int} {i : Int} (h : i < t.length) (hb : p_bl (tg t i) = true) : pb t i = pb t (i + 1) := by
  unfold pb
  rw [show ((t.length : Int) - i).toNat = ((t.length : Int) - (i + 1)).toNat + 1 by omega]
  exact if_pos hb
theorem pb_no {t : List Int} {i : Int} (h : i < t.length → p_bl (tg t i) = false) : pb t i = i := by
  unfold pb
  by_cases hi : i < t.length
  · rw [show ((t.length : Int) - i).toNat = ((t.length : Int) - (i + 1)).toNat + 1 by omega]
    exact if_neg (by rw [h hi]; decide)
  · rw [show ((t.length : Int) - i).toNat = 0 by omega]
    rfl
set_option maxHeartbeats 4000000 in
set_option maxRecDepth 100000 in
theorem c_Reader_passBlanks (l : Launch) (D : va_G) {sh : s_S} {M : s_M} {sz p s w : Int} {V : Int → Int} {t : List Int} {W : Int → Int} {Y : Int → List Int} {v : List Int} (h : rdw sh M p s w V t W Y v) (hpl : 0 ≤ V 6 ∧ V 6 ≤ t.length) : Sp l D y_Reader_passBlanks prog_8_method_21_code 1 none 2 0 0 [vr p] sh M sz (fun v' sh' M' sz' => v' = none ∧ sh' = sh ∧ sz' = sz ∧ rdw sh M' p s w (rset V 6 (pb t (V 6))) t W Y v ∧ fr (fun z => z = p) M M') := by
  have hp0 := h.2.2.2.2.2.2.1
  have hch := h.2.2.2.2.2.2.2.1.rng
  have hln := h.2.2.2.2.2.2.2.1.len
  refine Sp.ofGo (own := "CiteForge$Reader") (nm := "passBlanks") (by decide) rfl rfl (Nat.le_of_ble_eq_true rfl) (lv := [(0, vr p)]) rfl ?_
  intro g X
  have lp : ∀ (fuel : Nat) (q : Int) (Mx : s_M), (0 ≤ q ∧ q ≤ 1000) → (rdw sh Mx p s w (rset V 6 q) t W Y v) → (fr (fun z => z = p) M Mx) → (pb t q = pb t (V 6)) → ((1000 : Int) - q).toNat < fuel → Go g 0 0 sh Mx sz 0 [(0, vr p)] [] := by
    intro fuel
    induction fuel with
    | zero => intro q Mx hq hrd hfr hp hm_lp; exact absurd hm_lp (Nat.not_lt_zero _)
    | succ fuel ih_lp =>
      intro q Mx hq hrd hfr hp hm_lp
      refine go_aload_n X d_Reader_passBlanks_0 rfl rfl ?_
      refine go_get (v := vi q) X f_Reader_70 hrd.1 rfl d_Reader_passBlanks_1 (congrArg (s_v .int) (show Mx p 6 = q from (congrFun hrd.2.2.2.2.1 6).trans rset_at)) ?_
      refine go_aload_n X d_Reader_passBlanks_4 rfl rfl ?_
      refine go_get (v := vr (p + 1)) X f_Reader_24 hrd.1 rfl d_Reader_passBlanks_5 (s_vref (show Mx p 2 = p + 1 from (congrFun hrd.2.2.2.2.1 2).trans (hrd.2.2.2.2.2.1.2.2.1)) (by omega)) ?_
      refine go_cVf (st2 := [vi (t.length : Int), vi q]) (r := [vi q]) X k_Reader_50 (k_Text_size l D hrd.2.2.2.2.2.2.2.1) hrd.2.2.2.2.2.2.2.1.1.1 rfl rfl (by omega) (Nat.le_of_ble_eq_true rfl) d_Reader_passBlanks_8 (by omega) (by omega) rfl ?_
      refine go_icmp_ge (tgt := 44) X d_Reader_passBlanks_11 rfl (by omega) (by omega) (fun hq1 => ?_) (fun hq1 => ?_)
      · skip
        refine go_vret X d_Reader_passBlanks_44 rfl (by omega) (by omega) ?_
        have hfin : pb t q = q := pb_no (fun hlt => by omega)
        rw [← hp, hfin]
        exact ⟨rfl, rfl, rfl, hrd, hfr⟩
      · skip
        refine go_aload_n X d_Reader_passBlanks_14 rfl rfl ?_
        refine go_get (v := vr (p + 1)) X f_Reader_24 hrd.1 rfl d_Reader_passBlanks_15 (s_vref (show Mx p 2 = p + 1 from (congrFun hrd.2.2.2.2.1 2).trans (hrd.2.2.2.2.2.1.2.2.1)) (by omega)) ?_
        refine go_aload_n X d_Reader_passBlanks_18 rfl rfl ?_
        refine go_get (v := vi q) X f_Reader_70 hrd.1 rfl d_Reader_passBlanks_19 (congrArg (s_v .int) (show Mx p 6 = q from (congrFun hrd.2.2.2.2.1 6).trans rset_at)) ?_
        refine go_cVf (st2 := [vi (tg t q)]) (r := []) X k_Reader_76 (k_Text_at l D hrd.2.2.2.2.2.2.2.1 (by omega)) hrd.2.2.2.2.2.2.2.1.1.1 rfl rfl (by omega) (Nat.le_of_ble_eq_true rfl) d_Reader_passBlanks_22 (by omega) (by omega) rfl ?_
        have hr0 := hch q
        refine go_cSf (st2 := [vi (s_b (p_bl (tg t q)))]) (r := []) X k_Reader_180 (c_isBlank l D (by omega)) rfl rfl (by omega) (Nat.le_of_ble_eq_true rfl) d_Reader_passBlanks_25 (by omega) (by omega) rfl ?_
        refine go_ifb_eq (tgt := 44) X d_Reader_passBlanks_28 rfl (fun hq2 => ?_) (fun hq2 => ?_)
        · skip
          refine go_vret X d_Reader_passBlanks_44 rfl (by omega) (by omega) ?_
          have hfin : pb t q = q := pb_no (fun hlt => hq2)
          rw [← hp, hfin]
          exact ⟨rfl, rfl, rfl, hrd, hfr⟩
        · skip
          refine go_aload_n X d_Reader_passBlanks_31 rfl rfl ?_
          refine go_dup X d_Reader_passBlanks_32 rfl ?_
          refine go_get (v := vi q) X f_Reader_70 hrd.1 rfl d_Reader_passBlanks_33 (congrArg (s_v .int) (show Mx p 6 = q from (congrFun hrd.2.2.2.2.1 6).trans rset_at)) ?_
          refine go_iconst (v := 1) X d_Reader_passBlanks_36 ?_
          refine go_iadd X d_Reader_passBlanks_37 ?_
          refine go_put (x := (q + 1)) (v := vi (q + 1)) X f_Reader_70 hrd.1 rfl d_Reader_passBlanks_38 rfl rfl rfl ?_
          generalize hM4 : m_s Mx p 6 (q + 1) = M3
          have rd5 : rdw sh M3 p s w (rset (rset V 6 q) 6 (q + 1)) t W Y v := by rw [← hM4]; exact hrd.put (by decide)
          have fr6 : fr (fun z => z = p) M M3 := fun z hz => by
            have hz1 : ¬ (z = p) := hz
            rw [← hM4]; exact (m_s_a (by omega)).trans (hfr z hz)
          have rd7 : rdw sh M3 p s w (rset V 6 (q + 1)) t W Y v := by have z := rd5; rw [rset_rset] at z; exact z
          have hn := (pb_go (by omega) hq2).symm.trans hp
          refine go_goto (tgt := 0) X d_Reader_passBlanks_41 rfl ?_
          refine go_lv (lv' := [(0, vr p)]) X [0] rfl ?_
          exact ih_lp (q + 1) M3 (by omega) rd7 fr6 hn (by omega)
  refine go_lv (lv' := [(0, vr p)]) X [0] rfl ?_
  exact lp _ (V 6) M (by omega) (by rw [rset_self]; exact h) (fun z _ => rfl) rfl (Nat.lt_succ_self _)
