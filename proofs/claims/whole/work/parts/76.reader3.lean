/-- the piece at hand is a part of the source -/
def spV (V : Int → Int) (p b e : Int) : Int → Int := rset (rset (rset V 8 (p + 1)) 9 b) 10 e
theorem spV_pl {V : Int → Int} {p b e q : Int} (h : V 6 = q) : spV V p b e 6 = q := by simp [spV, rset, h]
/-- where braces close from i on, or -1 -/
def brc (t : List Int) : Nat → Int → Int → Int
  | 0, _, _ => -1
  | m + 1, i, v => if p_lev v (tg t i) = 0 then i else brc t m (i + 1) (p_lev v (tg t i))
def brk (t : List Int) (i : Int) : Int := brc t ((t.length : Int) - i).toNat i 0
theorem brc_s {t : List Int} {i v : Int} (h : i < t.length) : brc t ((t.length : Int) - i).toNat i v = if p_lev v (tg t i) = 0 then i else brc t ((t.length : Int) - (i + 1)).toNat (i + 1) (p_lev v (tg t i)) := by
  rw [show ((t.length : Int) - i).toNat = ((t.length : Int) - (i + 1)).toNat + 1 by omega]
  rfl
theorem brc_e {t : List Int} {i v : Int} (h : (t.length : Int) ≤ i) : brc t ((t.length : Int) - i).toNat i v = -1 := by
  rw [show ((t.length : Int) - i).toNat = 0 by omega]
  rfl
set_option maxHeartbeats 4000000 in
set_option maxRecDepth 100000 in
theorem c_Reader_setPiece (l : Launch) (D : va_G) {sh : s_S} {M : s_M} {sz p s w : Int} {V : Int → Int} {t : List Int} {W : Int → Int} {Y : Int → List Int} {v : List Int} (h : rdw sh M p s w V t W Y v) {b e : Int} : Sp l D y_Reader_setPiece prog_8_method_18_code 3 none 1 0 0 [vr p, vi b, vi e] sh M sz (fun v' sh' M' sz' => v' = none ∧ sh' = sh ∧ sz' = sz ∧ rdw sh M' p s w (spV V p b e) t W Y v ∧ fr (fun z => z = p) M M') := by
  have hp0 := h.2.2.2.2.2.2.1
  have hch := h.2.2.2.2.2.2.2.1.rng
  have hln := h.2.2.2.2.2.2.2.1.len
  refine Sp.ofGo (own := "CiteForge$Reader") (nm := "setPiece") (by decide) rfl rfl (Nat.le_of_ble_eq_true rfl) (lv := [(0, vr p), (1, vi b), (2, vi e)]) rfl ?_
  intro g X
  refine go_aload_n X d_Reader_setPiece_0 rfl rfl ?_
  refine go_aload_n X d_Reader_setPiece_1 rfl rfl ?_
  refine go_get (v := vr (p + 1)) X f_Reader_24 h.1 rfl d_Reader_setPiece_2 (s_vref (show M p 2 = p + 1 from (congrFun h.2.2.2.2.1 2).trans (h.2.2.2.2.2.1.2.2.1)) (by omega)) ?_
  refine go_put (x := (p + 1)) (v := vr (p + 1)) X f_Reader_28 h.1 rfl d_Reader_setPiece_5 (s_vref rfl (by omega)) rfl rfl ?_
  generalize hM2 : m_s M p 8 (p + 1) = M1
  have rd3 : rdw sh M1 p s w (rset V 8 (p + 1)) t W Y v := by rw [← hM2]; exact h.put (by decide)
  have fr4 : fr (fun z => z = p) M M1 := fun z hz => by
    have hz1 : ¬ (z = p) := hz
    rw [← hM2]; exact (m_s_a (by omega))
  refine go_aload_n X d_Reader_setPiece_8 rfl rfl ?_
  refine go_iload_n X d_Reader_setPiece_9 rfl rfl ?_
  refine go_put (x := b) (v := vi b) X f_Reader_170 h.1 rfl d_Reader_setPiece_10 rfl rfl rfl ?_
  generalize hM6 : m_s M1 p 9 b = M5
  have rd7 : rdw sh M5 p s w (rset (rset V 8 (p + 1)) 9 b) t W Y v := by rw [← hM6]; exact rd3.put (by decide)
  have fr8 : fr (fun z => z = p) M M5 := fun z hz => by
    have hz1 : ¬ (z = p) := hz
    rw [← hM6]; exact (m_s_a (by omega)).trans (fr4 z hz)
  refine go_aload_n X d_Reader_setPiece_13 rfl rfl ?_
  refine go_iload_n X d_Reader_setPiece_14 rfl rfl ?_
  refine go_put (x := e) (v := vi e) X f_Reader_167 h.1 rfl d_Reader_setPiece_15 rfl rfl rfl ?_
  generalize hM10 : m_s M5 p 10 e = M9
  have rd11 : rdw sh M9 p s w (rset (rset (rset V 8 (p + 1)) 9 b) 10 e) t W Y v := by rw [← hM10]; exact rd7.put (by decide)
  have fr12 : fr (fun z => z = p) M M9 := fun z hz => by
    have hz1 : ¬ (z = p) := hz
    rw [← hM10]; exact (m_s_a (by omega)).trans (fr8 z hz)
  refine go_vret X d_Reader_setPiece_18 rfl (by omega) (by omega) ?_
  exact ⟨rfl, rfl, rfl, rd11, fr12⟩
set_option maxHeartbeats 4000000 in
set_option maxRecDepth 100000 in
theorem c_Reader_takeBraced (l : Launch) (D : va_G) {sh : s_S} {M : s_M} {sz p s w : Int} {V : Int → Int} {t : List Int} {W : Int → Int} {Y : Int → List Int} {v : List Int} (h : rdw sh M p s w V t W Y v) (hpl : 0 ≤ V 6 ∧ V 6 ≤ t.length) : Sp l D y_Reader_takeBraced prog_8_method_14_code 3 (some .boolean) 3 0 0 [vr p] sh M sz (fun v' sh' M' sz' => v' = some (vi (s_b (decide (0 ≤ brk t (V 6))))) ∧ sh' = sh ∧ sz' = sz ∧ rdw sh M' p s w (if 0 ≤ brk t (V 6) then rset (spV V p (V 6 + 1) (brk t (V 6))) 6 (brk t (V 6) + 1) else rset V 6 (t.length : Int)) t W Y v ∧ fr (fun z => z = p) M M') := by
  have hp0 := h.2.2.2.2.2.2.1
  have hch := h.2.2.2.2.2.2.2.1.rng
  have hln := h.2.2.2.2.2.2.2.1.len
  refine Sp.ofGo (own := "CiteForge$Reader") (nm := "takeBraced") (by decide) rfl rfl (Nat.le_of_ble_eq_true rfl) (lv := [(0, vr p)]) rfl ?_
  intro g X
  refine go_iconst (v := 0) X d_Reader_takeBraced_0 ?_
  refine go_istore_n (lv' := [(1, vi 0), (0, vr p)]) X d_Reader_takeBraced_1 rfl (by decide) rfl ?_
  refine go_aload_n X d_Reader_takeBraced_2 rfl rfl ?_
  refine go_get (v := vi (V 6)) X f_Reader_70 h.1 rfl d_Reader_takeBraced_3 (congrArg (s_v .int) (show M p 6 = V 6 from (congrFun h.2.2.2.2.1 6))) ?_
  refine go_istore_n (lv' := [(2, vi (V 6)), (1, vi 0), (0, vr p)]) X d_Reader_takeBraced_6 rfl (by decide) rfl ?_
  have lp : ∀ (fuel : Nat) (i : Int) (lv : Int), (V 6 ≤ i ∧ i ≤ t.length) → (0 ≤ lv ∧ lv ≤ i) → (brc t ((t.length : Int) - i).toNat i lv = brk t (V 6)) → ((t.length : Int) - i).toNat < fuel → Go g 0 0 sh M sz 7 [(0, vr p), (1, vi lv), (2, vi i)] [] := by
    intro fuel
    induction fuel with
    | zero => intro i lv hi hv hp hm_lp; exact absurd hm_lp (Nat.not_lt_zero _)
    | succ fuel ih_lp =>
      intro i lv hi hv hp hm_lp
      refine go_iload_n X d_Reader_takeBraced_7 rfl rfl ?_
      refine go_aload_n X d_Reader_takeBraced_8 rfl rfl ?_
      refine go_get (v := vr (p + 1)) X f_Reader_24 h.1 rfl d_Reader_takeBraced_9 (s_vref (show M p 2 = p + 1 from (congrFun h.2.2.2.2.1 2).trans (h.2.2.2.2.2.1.2.2.1)) (by omega)) ?_
      refine go_cVf (st2 := [vi (t.length : Int), vi i]) (r := [vi i]) X k_Reader_50 (k_Text_size l D h.2.2.2.2.2.2.2.1) h.2.2.2.2.2.2.2.1.1.1 rfl rfl (by omega) (Nat.le_of_ble_eq_true rfl) d_Reader_takeBraced_12 (by omega) (by omega) rfl ?_
      refine go_icmp_ge (tgt := 61) X d_Reader_takeBraced_15 rfl (by omega) (by omega) (fun hq1 => ?_) (fun hq1 => ?_)
      · skip
        refine go_aload_n X d_Reader_takeBraced_61 rfl rfl ?_
        refine go_aload_n X d_Reader_takeBraced_62 rfl rfl ?_
        refine go_get (v := vr (p + 1)) X f_Reader_24 h.1 rfl d_Reader_takeBraced_63 (s_vref (show M p 2 = p + 1 from (congrFun h.2.2.2.2.1 2).trans (h.2.2.2.2.2.1.2.2.1)) (by omega)) ?_
        refine go_cVf (st2 := [vi (t.length : Int), vr p]) (r := [vr p]) X k_Reader_50 (k_Text_size l D h.2.2.2.2.2.2.2.1) h.2.2.2.2.2.2.2.1.1.1 rfl rfl (by omega) (Nat.le_of_ble_eq_true rfl) d_Reader_takeBraced_66 (by omega) (by omega) rfl ?_
        refine go_put (x := (t.length : Int)) (v := vi (t.length : Int)) X f_Reader_70 h.1 rfl d_Reader_takeBraced_69 rfl rfl rfl ?_
        generalize hM3 : m_s M p 6 (t.length : Int) = M2
        have rd4 : rdw sh M2 p s w (rset V 6 (t.length : Int)) t W Y v := by rw [← hM3]; exact h.put (by decide)
        have fr5 : fr (fun z => z = p) M M2 := fun z hz => by
          have hz1 : ¬ (z = p) := hz
          rw [← hM3]; exact (m_s_a (by omega))
        refine go_iconst (v := 0) X d_Reader_takeBraced_72 ?_
        refine go_iret X d_Reader_takeBraced_73 rfl ?_ (by omega) (by omega) ?_
        · rfl
        rw [brc_e (by omega)] at hp
        rw [← hp]
        exact ⟨rfl, rfl, rfl, rd4, fr5⟩
      · skip
        refine go_iload_n X d_Reader_takeBraced_18 rfl rfl ?_
        refine go_aload_n X d_Reader_takeBraced_19 rfl rfl ?_
        refine go_get (v := vr (p + 1)) X f_Reader_24 h.1 rfl d_Reader_takeBraced_20 (s_vref (show M p 2 = p + 1 from (congrFun h.2.2.2.2.1 2).trans (h.2.2.2.2.2.1.2.2.1)) (by omega)) ?_
        refine go_iload_n X d_Reader_takeBraced_23 rfl rfl ?_
        refine go_cVf (st2 := [vi (tg t i), vi lv]) (r := [vi lv]) X k_Reader_76 (k_Text_at l D h.2.2.2.2.2.2.2.1 (by omega)) h.2.2.2.2.2.2.2.1.1.1 rfl rfl (by omega) (Nat.le_of_ble_eq_true rfl) d_Reader_takeBraced_24 (by omega) (by omega) rfl ?_
        have hr0 := hch i
        refine go_cSf (st2 := [vi (p_lev lv (tg t i))]) (r := []) X k_Reader_155 (c_levelBehind l D (by omega) (by omega)) rfl rfl (by omega) (Nat.le_of_ble_eq_true rfl) d_Reader_takeBraced_27 (by omega) (by omega) rfl ?_
        have hlv := p_lev_rng (c := tg t i) hv
        refine go_istore_n (lv' := [(1, vi (p_lev lv (tg t i))), (0, vr p), (2, vi i)]) X d_Reader_takeBraced_30 rfl (by decide) rfl ?_
        refine go_iload_n X d_Reader_takeBraced_31 rfl rfl ?_
        refine go_if_ne (tgt := 55) X d_Reader_takeBraced_32 rfl (by omega) (fun hq6 => ?_) (fun hq6 => ?_)
        · skip
          have hn := hp
          rw [brc_s (by omega), if_neg hq6] at hn
          refine go_iinc (v := 1) (x := i) (lv' := [(2, vi (i + 1)), (1, vi (p_lev lv (tg t i))), (0, vr p)]) X d_Reader_takeBraced_55 rfl (by decide) rfl ?_
          refine go_goto (tgt := 7) X d_Reader_takeBraced_58 rfl ?_
          refine go_lv (lv' := [(0, vr p), (1, vi (p_lev lv (tg t i))), (2, vi (i + 1))]) X [2, 1, 0] rfl ?_
          exact ih_lp (i + 1) (p_lev lv (tg t i)) (by omega) (by omega) hn (by omega)
        · skip
          refine go_aload_n X d_Reader_takeBraced_35 rfl rfl ?_
          refine go_aload_n X d_Reader_takeBraced_36 rfl rfl ?_
          refine go_get (v := vi (V 6)) X f_Reader_70 h.1 rfl d_Reader_takeBraced_37 (congrArg (s_v .int) (show M p 6 = V 6 from (congrFun h.2.2.2.2.1 6))) ?_
          refine go_iconst (v := 1) X d_Reader_takeBraced_40 ?_
          refine go_iadd X d_Reader_takeBraced_41 ?_
          refine go_iload_n X d_Reader_takeBraced_42 rfl rfl ?_
          refine go_cV (st2 := []) (r := []) X k_Reader_159 (c_Reader_setPiece l D h (b := (V 6) + 1) (e := i)) h.1 rfl rfl (by omega) (Nat.le_of_ble_eq_true rfl) d_Reader_takeBraced_43 (by omega) (by omega) (fun v' sh' M7 sz' hpp => ?_)
          obtain ⟨e8, e9, e10, rd11, fr12⟩ := hpp
          subst e8
          rw [e9, e10]
          show Go g 0 0 sh M7 sz 46 [(1, vi (p_lev lv (tg t i))), (0, vr p), (2, vi i)] []
          have fr13 : fr (fun z => z = p) M M7 := fun z hz => by
            have hz1 : ¬ (z = p) := hz
            exact (fr12 z (by show ¬ (z = p); omega))
          refine go_aload_n X d_Reader_takeBraced_46 rfl rfl ?_
          refine go_iload_n X d_Reader_takeBraced_47 rfl rfl ?_
          refine go_iconst (v := 1) X d_Reader_takeBraced_48 ?_
          refine go_iadd X d_Reader_takeBraced_49 ?_
          refine go_put (x := (i + 1)) (v := vi (i + 1)) X f_Reader_70 rd11.1 rfl d_Reader_takeBraced_50 rfl rfl rfl ?_
          generalize hM15 : m_s M7 p 6 (i + 1) = M14
          have rd16 : rdw sh M14 p s w (rset (spV V p ((V 6) + 1) i) 6 (i + 1)) t W Y v := by rw [← hM15]; exact rd11.put (by decide)
          have fr17 : fr (fun z => z = p) M M14 := fun z hz => by
            have hz1 : ¬ (z = p) := hz
            rw [← hM15]; exact (m_s_a (by omega)).trans (fr13 z hz)
          refine go_iconst (v := 1) X d_Reader_takeBraced_53 ?_
          refine go_iret X d_Reader_takeBraced_54 rfl ?_ (by omega) (by omega) ?_
          · rfl
          rw [brc_s (by omega), if_pos hq6] at hp
          rw [← hp, if_pos (show 0 ≤ i by omega), show decide (0 ≤ i) = true from decide_eq_true (by omega)]
          exact ⟨rfl, rfl, rfl, rd16, fr17⟩
  refine go_lv (lv' := [(0, vr p), (1, vi 0), (2, vi (V 6))]) X [2, 1, 0] rfl ?_
  exact lp _ (V 6) 0 (by omega) (by omega) rfl (Nat.lt_succ_self _)
/-- a quoted piece from i on: 1 with its end, 2 with a brace that closes nothing, 0 with the source's end -/
def qtc (t : List Int) : Nat → Int → Int → Int × Int
  | 0, _, _ => (0, (t.length : Int))
  | m + 1, i, v => if v = 0 ∧ tg t i = 34 then (1, i) else if v = 0 ∧ tg t i = 125 then (2, i) else qtc t m (i + 1) (p_lev v (tg t i))
def qtk (t : List Int) (i : Int) : Int × Int := qtc t ((t.length : Int) - (i + 1)).toNat (i + 1) 0
theorem qtc_s {t : List Int} {i v : Int} (h : i < t.length) : qtc t ((t.length : Int) - i).toNat i v = if v = 0 ∧ tg t i = 34 then (1, i) else if v = 0 ∧ tg t i = 125 then (2, i) else qtc t ((t.length : Int) - (i + 1)).toNat (i + 1) (p_lev v (tg t i)) := by
  rw [show ((t.length : Int) - i).toNat = ((t.length : Int) - (i + 1)).toNat + 1 by omega]
  rfl
theorem qtc_e {t : List Int} {i v : Int} (h : (t.length : Int) ≤ i) : qtc t ((t.length : Int) - i).toNat i v = (0, (t.length : Int)) := by
  rw [show ((t.length : Int) - i).toNat = 0 by omega]
  rfl
/-- the digits from q on -/
def dgr (t : List Int) : Nat → Int → Int
  | 0, q => q
  | m + 1, q => if p_dig (tg t q) = true then dgr t m (q + 1) else q
def dgt (t : List Int) (q : Int) : Int := dgr t ((9 : Int) - 0).toNat q
theorem dgr_go {t : List Int} {k q : Int} (hk : k < 9) (h : p_dig (tg t q) = true) : dgr t ((9 : Int) - k).toNat q = dgr t ((9 : Int) - (k + 1)).toNat (q + 1) := by
  rw [show ((9 : Int) - k).toNat = ((9 : Int) - (k + 1)).toNat + 1 by omega]
  exact if_pos h
theorem dgr_no {t : List Int} {k q : Int} (h : k < 9 → p_dig (tg t q) = false) : dgr t ((9 : Int) - k).toNat q = q := by
  by_cases hk : k < 9
  · rw [show ((9 : Int) - k).toNat = ((9 : Int) - (k + 1)).toNat + 1 by omega]
    exact if_neg (by rw [h hk]; decide)
  · rw [show ((9 : Int) - k).toNat = 0 by omega]
    rfl
set_option maxHeartbeats 4000000 in
set_option maxRecDepth 100000 in
theorem c_Reader_takeQuoted (l : Launch) (D : va_G) {sh : s_S} {M : s_M} {sz p s w : Int} {V : Int → Int} {t : List Int} {W : Int → Int} {Y : Int → List Int} {v : List Int} (h : rdw sh M p s w V t W Y v) (hpl : 0 ≤ V 6 ∧ V 6 ≤ t.length) : Sp l D y_Reader_takeQuoted prog_8_method_15_code 4 (some .boolean) 3 0 0 [vr p] sh M sz (fun v' sh' M' sz' => v' = some (vi (s_b (decide ((qtk t (V 6)).1 = 1)))) ∧ sh' = sh ∧ sz' = sz ∧ rdw sh M' p s w (if (qtk t (V 6)).1 = 1 then rset (spV V p (V 6 + 1) (qtk t (V 6)).2) 6 ((qtk t (V 6)).2 + 1) else rset V 6 (qtk t (V 6)).2) t W Y v ∧ fr (fun z => z = p) M M') := by
  have hp0 := h.2.2.2.2.2.2.1
  have hch := h.2.2.2.2.2.2.2.1.rng
  have hln := h.2.2.2.2.2.2.2.1.len
  refine Sp.ofGo (own := "CiteForge$Reader") (nm := "takeQuoted") (by decide) rfl rfl (Nat.le_of_ble_eq_true rfl) (lv := [(0, vr p)]) rfl ?_
  intro g X
  refine go_iconst (v := 0) X d_Reader_takeQuoted_0 ?_
  refine go_istore_n (lv' := [(1, vi 0), (0, vr p)]) X d_Reader_takeQuoted_1 rfl (by decide) rfl ?_
  refine go_aload_n X d_Reader_takeQuoted_2 rfl rfl ?_
  refine go_get (v := vi (V 6)) X f_Reader_70 h.1 rfl d_Reader_takeQuoted_3 (congrArg (s_v .int) (show M p 6 = V 6 from (congrFun h.2.2.2.2.1 6))) ?_
  refine go_iconst (v := 1) X d_Reader_takeQuoted_6 ?_
  refine go_iadd X d_Reader_takeQuoted_7 ?_
  refine go_istore_n (lv' := [(2, vi ((V 6) + 1)), (1, vi 0), (0, vr p)]) X d_Reader_takeQuoted_8 rfl (by decide) rfl ?_
  have lp : ∀ (fuel : Nat) (i : Int) (lv : Int), (V 6 + 1 ≤ i ∧ i ≤ t.length + 1) → (0 ≤ lv ∧ lv ≤ i) → (qtc t ((t.length : Int) - i).toNat i lv = qtk t (V 6)) → ((t.length : Int) - i).toNat < fuel → Go g 0 0 sh M sz 9 [(0, vr p), (1, vi lv), (2, vi i)] [] := by
    intro fuel
    induction fuel with
    | zero => intro i lv hi hv hp hm_lp; exact absurd hm_lp (Nat.not_lt_zero _)
    | succ fuel ih_lp =>
      intro i lv hi hv hp hm_lp
      refine go_iload_n X d_Reader_takeQuoted_9 rfl rfl ?_
      refine go_aload_n X d_Reader_takeQuoted_10 rfl rfl ?_
      refine go_get (v := vr (p + 1)) X f_Reader_24 h.1 rfl d_Reader_takeQuoted_11 (s_vref (show M p 2 = p + 1 from (congrFun h.2.2.2.2.1 2).trans (h.2.2.2.2.2.1.2.2.1)) (by omega)) ?_
      refine go_cVf (st2 := [vi (t.length : Int), vi i]) (r := [vi i]) X k_Reader_50 (k_Text_size l D h.2.2.2.2.2.2.2.1) h.2.2.2.2.2.2.2.1.1.1 rfl rfl (by omega) (Nat.le_of_ble_eq_true rfl) d_Reader_takeQuoted_14 (by omega) (by omega) rfl ?_
      refine go_icmp_ge (tgt := 88) X d_Reader_takeQuoted_17 rfl (by omega) (by omega) (fun hq1 => ?_) (fun hq1 => ?_)
      · skip
        refine go_aload_n X d_Reader_takeQuoted_88 rfl rfl ?_
        refine go_aload_n X d_Reader_takeQuoted_89 rfl rfl ?_
        refine go_get (v := vr (p + 1)) X f_Reader_24 h.1 rfl d_Reader_takeQuoted_90 (s_vref (show M p 2 = p + 1 from (congrFun h.2.2.2.2.1 2).trans (h.2.2.2.2.2.1.2.2.1)) (by omega)) ?_
        refine go_cVf (st2 := [vi (t.length : Int), vr p]) (r := [vr p]) X k_Reader_50 (k_Text_size l D h.2.2.2.2.2.2.2.1) h.2.2.2.2.2.2.2.1.1.1 rfl rfl (by omega) (Nat.le_of_ble_eq_true rfl) d_Reader_takeQuoted_93 (by omega) (by omega) rfl ?_
        refine go_put (x := (t.length : Int)) (v := vi (t.length : Int)) X f_Reader_70 h.1 rfl d_Reader_takeQuoted_96 rfl rfl rfl ?_
        generalize hM3 : m_s M p 6 (t.length : Int) = M2
        have rd4 : rdw sh M2 p s w (rset V 6 (t.length : Int)) t W Y v := by rw [← hM3]; exact h.put (by decide)
        have fr5 : fr (fun z => z = p) M M2 := fun z hz => by
          have hz1 : ¬ (z = p) := hz
          rw [← hM3]; exact (m_s_a (by omega))
        refine go_iconst (v := 0) X d_Reader_takeQuoted_99 ?_
        refine go_iret X d_Reader_takeQuoted_100 rfl ?_ (by omega) (by omega) ?_
        · rfl
        rw [qtc_e (by omega)] at hp
        rw [← hp]
        exact ⟨rfl, rfl, rfl, rd4, fr5⟩
      · skip
        refine go_aload_n X d_Reader_takeQuoted_20 rfl rfl ?_
        refine go_get (v := vr (p + 1)) X f_Reader_24 h.1 rfl d_Reader_takeQuoted_21 (s_vref (show M p 2 = p + 1 from (congrFun h.2.2.2.2.1 2).trans (h.2.2.2.2.2.1.2.2.1)) (by omega)) ?_
        refine go_iload_n X d_Reader_takeQuoted_24 rfl rfl ?_
        refine go_cVf (st2 := [vi (tg t i)]) (r := []) X k_Reader_76 (k_Text_at l D h.2.2.2.2.2.2.2.1 (by omega)) h.2.2.2.2.2.2.2.1.1.1 rfl rfl (by omega) (Nat.le_of_ble_eq_true rfl) d_Reader_takeQuoted_25 (by omega) (by omega) rfl ?_
        have hr0 := hch i
        refine go_istore_n (lv' := [(3, vi (tg t i)), (0, vr p), (1, vi lv), (2, vi i)]) X d_Reader_takeQuoted_28 rfl (by decide) rfl ?_
        refine go_iload_n X d_Reader_takeQuoted_29 rfl rfl ?_
        refine go_if_ne (tgt := 59) X d_Reader_takeQuoted_30 rfl (by omega) (fun hq6 => ?_) (fun hq6 => ?_)
        · skip
          refine go_iload_n X d_Reader_takeQuoted_59 rfl rfl ?_
          refine go_if_ne (tgt := 76) X d_Reader_takeQuoted_60 rfl (by omega) (fun hq7 => ?_) (fun hq7 => ?_)
          · skip
            refine go_iload_n X d_Reader_takeQuoted_76 rfl rfl ?_
            refine go_iload_n X d_Reader_takeQuoted_77 rfl rfl ?_
            refine go_cSf (st2 := [vi (p_lev lv (tg t i))]) (r := []) X k_Reader_155 (c_levelBehind l D (by omega) (by omega)) rfl rfl (by omega) (Nat.le_of_ble_eq_true rfl) d_Reader_takeQuoted_78 (by omega) (by omega) rfl ?_
            have hlv := p_lev_rng (c := tg t i) hv
            refine go_istore_n (lv' := [(1, vi (p_lev lv (tg t i))), (3, vi (tg t i)), (0, vr p), (2, vi i)]) X d_Reader_takeQuoted_81 rfl (by decide) rfl ?_
            have hn := hp
            rw [qtc_s (by omega), if_neg (fun q => hq6 q.1), if_neg (fun q => hq7 q.1)] at hn
            refine go_iinc (v := 1) (x := i) (lv' := [(2, vi (i + 1)), (1, vi (p_lev lv (tg t i))), (3, vi (tg t i)), (0, vr p)]) X d_Reader_takeQuoted_82 rfl (by decide) rfl ?_
            refine go_goto (tgt := 9) X d_Reader_takeQuoted_85 rfl ?_
            refine go_lv (lv' := [(0, vr p), (1, vi (p_lev lv (tg t i))), (2, vi (i + 1))]) X [3, 1, 0] rfl ?_
            exact ih_lp (i + 1) (p_lev lv (tg t i)) (by omega) (by omega) hn (by omega)
          · skip
            refine go_iload_n X d_Reader_takeQuoted_63 rfl rfl ?_
            refine go_bipush (v := 125) X d_Reader_takeQuoted_64 (by decide) ?_
            refine go_icmp_ne (tgt := 76) X d_Reader_takeQuoted_66 rfl (by omega) (by omega) (fun hq8 => ?_) (fun hq8 => ?_)
            · skip
              refine go_iload_n X d_Reader_takeQuoted_76 rfl rfl ?_
              refine go_iload_n X d_Reader_takeQuoted_77 rfl rfl ?_
              refine go_cSf (st2 := [vi (p_lev lv (tg t i))]) (r := []) X k_Reader_155 (c_levelBehind l D (by omega) (by omega)) rfl rfl (by omega) (Nat.le_of_ble_eq_true rfl) d_Reader_takeQuoted_78 (by omega) (by omega) rfl ?_
              have hlv := p_lev_rng (c := tg t i) hv
              refine go_istore_n (lv' := [(1, vi (p_lev lv (tg t i))), (3, vi (tg t i)), (0, vr p), (2, vi i)]) X d_Reader_takeQuoted_81 rfl (by decide) rfl ?_
              have hn := hp
              rw [qtc_s (by omega), if_neg (fun q => hq6 q.1), if_neg (fun q => hq8 q.2)] at hn
              refine go_iinc (v := 1) (x := i) (lv' := [(2, vi (i + 1)), (1, vi (p_lev lv (tg t i))), (3, vi (tg t i)), (0, vr p)]) X d_Reader_takeQuoted_82 rfl (by decide) rfl ?_
              refine go_goto (tgt := 9) X d_Reader_takeQuoted_85 rfl ?_
              refine go_lv (lv' := [(0, vr p), (1, vi (p_lev lv (tg t i))), (2, vi (i + 1))]) X [3, 1, 0] rfl ?_
              exact ih_lp (i + 1) (p_lev lv (tg t i)) (by omega) (by omega) hn (by omega)
            · skip
              refine go_aload_n X d_Reader_takeQuoted_69 rfl rfl ?_
              refine go_iload_n X d_Reader_takeQuoted_70 rfl rfl ?_
              refine go_put (x := i) (v := vi i) X f_Reader_70 h.1 rfl d_Reader_takeQuoted_71 rfl rfl rfl ?_
              generalize hM10 : m_s M p 6 i = M9
              have rd11 : rdw sh M9 p s w (rset V 6 i) t W Y v := by rw [← hM10]; exact h.put (by decide)
              have fr12 : fr (fun z => z = p) M M9 := fun z hz => by
                have hz1 : ¬ (z = p) := hz
                rw [← hM10]; exact (m_s_a (by omega))
              refine go_iconst (v := 0) X d_Reader_takeQuoted_74 ?_
              refine go_iret X d_Reader_takeQuoted_75 rfl ?_ (by omega) (by omega) ?_
              · rfl
              rw [qtc_s (by omega), if_neg (fun q => hq6 q.1), if_pos ⟨hq7, hq8⟩] at hp
              rw [← hp]
              exact ⟨rfl, rfl, rfl, rd11, fr12⟩
        · skip
          refine go_iload_n X d_Reader_takeQuoted_33 rfl rfl ?_
          refine go_bipush (v := 34) X d_Reader_takeQuoted_34 (by decide) ?_
          refine go_icmp_ne (tgt := 59) X d_Reader_takeQuoted_36 rfl (by omega) (by omega) (fun hq13 => ?_) (fun hq13 => ?_)
          · skip
            refine go_iload_n X d_Reader_takeQuoted_59 rfl rfl ?_
            refine go_if_ne (tgt := 76) X d_Reader_takeQuoted_60 rfl (by omega) (fun hq14 => ?_) (fun hq14 => ?_)
            · skip
              refine go_iload_n X d_Reader_takeQuoted_76 rfl rfl ?_
              refine go_iload_n X d_Reader_takeQuoted_77 rfl rfl ?_
              refine go_cSf (st2 := [vi (p_lev lv (tg t i))]) (r := []) X k_Reader_155 (c_levelBehind l D (by omega) (by omega)) rfl rfl (by omega) (Nat.le_of_ble_eq_true rfl) d_Reader_takeQuoted_78 (by omega) (by omega) rfl ?_
              have hlv := p_lev_rng (c := tg t i) hv
              refine go_istore_n (lv' := [(1, vi (p_lev lv (tg t i))), (3, vi (tg t i)), (0, vr p), (2, vi i)]) X d_Reader_takeQuoted_81 rfl (by decide) rfl ?_
              have hn := hp
              rw [qtc_s (by omega), if_neg (fun q => hq13 q.2), if_neg (fun q => hq14 q.1)] at hn
              refine go_iinc (v := 1) (x := i) (lv' := [(2, vi (i + 1)), (1, vi (p_lev lv (tg t i))), (3, vi (tg t i)), (0, vr p)]) X d_Reader_takeQuoted_82 rfl (by decide) rfl ?_
              refine go_goto (tgt := 9) X d_Reader_takeQuoted_85 rfl ?_
              refine go_lv (lv' := [(0, vr p), (1, vi (p_lev lv (tg t i))), (2, vi (i + 1))]) X [3, 1, 0] rfl ?_
              exact ih_lp (i + 1) (p_lev lv (tg t i)) (by omega) (by omega) hn (by omega)
            · skip
              refine go_iload_n X d_Reader_takeQuoted_63 rfl rfl ?_
              refine go_bipush (v := 125) X d_Reader_takeQuoted_64 (by decide) ?_
              refine go_icmp_ne (tgt := 76) X d_Reader_takeQuoted_66 rfl (by omega) (by omega) (fun hq15 => ?_) (fun hq15 => ?_)
              · skip
                refine go_iload_n X d_Reader_takeQuoted_76 rfl rfl ?_
                refine go_iload_n X d_Reader_takeQuoted_77 rfl rfl ?_
                refine go_cSf (st2 := [vi (p_lev lv (tg t i))]) (r := []) X k_Reader_155 (c_levelBehind l D (by omega) (by omega)) rfl rfl (by omega) (Nat.le_of_ble_eq_true rfl) d_Reader_takeQuoted_78 (by omega) (by omega) rfl ?_
                have hlv := p_lev_rng (c := tg t i) hv
                refine go_istore_n (lv' := [(1, vi (p_lev lv (tg t i))), (3, vi (tg t i)), (0, vr p), (2, vi i)]) X d_Reader_takeQuoted_81 rfl (by decide) rfl ?_
                have hn := hp
                rw [qtc_s (by omega), if_neg (fun q => hq13 q.2), if_neg (fun q => hq15 q.2)] at hn
                refine go_iinc (v := 1) (x := i) (lv' := [(2, vi (i + 1)), (1, vi (p_lev lv (tg t i))), (3, vi (tg t i)), (0, vr p)]) X d_Reader_takeQuoted_82 rfl (by decide) rfl ?_
                refine go_goto (tgt := 9) X d_Reader_takeQuoted_85 rfl ?_
                refine go_lv (lv' := [(0, vr p), (1, vi (p_lev lv (tg t i))), (2, vi (i + 1))]) X [3, 1, 0] rfl ?_
                exact ih_lp (i + 1) (p_lev lv (tg t i)) (by omega) (by omega) hn (by omega)
              · skip
                refine go_aload_n X d_Reader_takeQuoted_69 rfl rfl ?_
                refine go_iload_n X d_Reader_takeQuoted_70 rfl rfl ?_
                refine go_put (x := i) (v := vi i) X f_Reader_70 h.1 rfl d_Reader_takeQuoted_71 rfl rfl rfl ?_
                generalize hM17 : m_s M p 6 i = M16
                have rd18 : rdw sh M16 p s w (rset V 6 i) t W Y v := by rw [← hM17]; exact h.put (by decide)
                have fr19 : fr (fun z => z = p) M M16 := fun z hz => by
                  have hz1 : ¬ (z = p) := hz
                  rw [← hM17]; exact (m_s_a (by omega))
                refine go_iconst (v := 0) X d_Reader_takeQuoted_74 ?_
                refine go_iret X d_Reader_takeQuoted_75 rfl ?_ (by omega) (by omega) ?_
                · rfl
                rw [qtc_s (by omega), if_neg (fun q => hq13 q.2), if_pos ⟨hq14, hq15⟩] at hp
                rw [← hp]
                exact ⟨rfl, rfl, rfl, rd18, fr19⟩
          · skip
            refine go_aload_n X d_Reader_takeQuoted_39 rfl rfl ?_
            refine go_aload_n X d_Reader_takeQuoted_40 rfl rfl ?_
            refine go_get (v := vi (V 6)) X f_Reader_70 h.1 rfl d_Reader_takeQuoted_41 (congrArg (s_v .int) (show M p 6 = V 6 from (congrFun h.2.2.2.2.1 6))) ?_
            refine go_iconst (v := 1) X d_Reader_takeQuoted_44 ?_
            refine go_iadd X d_Reader_takeQuoted_45 ?_
            refine go_iload_n X d_Reader_takeQuoted_46 rfl rfl ?_
            refine go_cV (st2 := []) (r := []) X k_Reader_159 (c_Reader_setPiece l D h (b := (V 6) + 1) (e := i)) h.1 rfl rfl (by omega) (Nat.le_of_ble_eq_true rfl) d_Reader_takeQuoted_47 (by omega) (by omega) (fun v' sh' M20 sz' hpp => ?_)
            obtain ⟨e21, e22, e23, rd24, fr25⟩ := hpp
            subst e21
            rw [e22, e23]
            show Go g 0 0 sh M20 sz 50 [(3, vi (tg t i)), (0, vr p), (1, vi lv), (2, vi i)] []
            have fr26 : fr (fun z => z = p) M M20 := fun z hz => by
              have hz1 : ¬ (z = p) := hz
              exact (fr25 z (by show ¬ (z = p); omega))
            refine go_aload_n X d_Reader_takeQuoted_50 rfl rfl ?_
            refine go_iload_n X d_Reader_takeQuoted_51 rfl rfl ?_
            refine go_iconst (v := 1) X d_Reader_takeQuoted_52 ?_
            refine go_iadd X d_Reader_takeQuoted_53 ?_
            refine go_put (x := (i + 1)) (v := vi (i + 1)) X f_Reader_70 rd24.1 rfl d_Reader_takeQuoted_54 rfl rfl rfl ?_
            generalize hM28 : m_s M20 p 6 (i + 1) = M27
            have rd29 : rdw sh M27 p s w (rset (spV V p ((V 6) + 1) i) 6 (i + 1)) t W Y v := by rw [← hM28]; exact rd24.put (by decide)
            have fr30 : fr (fun z => z = p) M M27 := fun z hz => by
              have hz1 : ¬ (z = p) := hz
              rw [← hM28]; exact (m_s_a (by omega)).trans (fr26 z hz)
            refine go_iconst (v := 1) X d_Reader_takeQuoted_57 ?_
            refine go_iret X d_Reader_takeQuoted_58 rfl ?_ (by omega) (by omega) ?_
            · rfl
            rw [qtc_s (by omega), if_pos ⟨hq6, hq13⟩] at hp
            rw [← hp]
            exact ⟨rfl, rfl, rfl, rd29, fr30⟩
  refine go_lv (lv' := [(0, vr p), (1, vi 0), (2, vi ((V 6) + 1))]) X [2, 1, 0] rfl ?_
  exact lp _ (V 6 + 1) 0 (by omega) (by omega) rfl (Nat.lt_succ_self _)
set_option maxHeartbeats 4000000 in
set_option maxRecDepth 100000 in
theorem c_Reader_takeDigits (l : Launch) (D : va_G) {sh : s_S} {M : s_M} {sz p s w : Int} {V : Int → Int} {t : List Int} {W : Int → Int} {Y : Int → List Int} {v : List Int} (h : rdw sh M p s w V t W Y v) (hpl : 0 ≤ V 6 ∧ V 6 ≤ t.length) : Sp l D y_Reader_takeDigits prog_8_method_16_code 3 none 3 0 0 [vr p] sh M sz (fun v' sh' M' sz' => v' = none ∧ sh' = sh ∧ sz' = sz ∧ rdw sh M' p s w (spV (rset V 6 (dgt t (V 6))) p (V 6) (dgt t (V 6))) t W Y v ∧ fr (fun z => z = p) M M') := by
  have hp0 := h.2.2.2.2.2.2.1
  have hch := h.2.2.2.2.2.2.2.1.rng
  have hln := h.2.2.2.2.2.2.2.1.len
  refine Sp.ofGo (own := "CiteForge$Reader") (nm := "takeDigits") (by decide) rfl rfl (Nat.le_of_ble_eq_true rfl) (lv := [(0, vr p)]) rfl ?_
  intro g X
  refine go_aload_n X d_Reader_takeDigits_0 rfl rfl ?_
  refine go_get (v := vi (V 6)) X f_Reader_70 h.1 rfl d_Reader_takeDigits_1 (congrArg (s_v .int) (show M p 6 = V 6 from (congrFun h.2.2.2.2.1 6))) ?_
  refine go_istore_n (lv' := [(1, vi (V 6)), (0, vr p)]) X d_Reader_takeDigits_4 rfl (by decide) rfl ?_
  refine go_iconst (v := 0) X d_Reader_takeDigits_5 ?_
  refine go_istore_n (lv' := [(2, vi 0), (1, vi (V 6)), (0, vr p)]) X d_Reader_takeDigits_6 rfl (by decide) rfl ?_
  have lp : ∀ (fuel : Nat) (k : Int) (q : Int) (Mx : s_M), (0 ≤ k ∧ k ≤ 9) → (0 ≤ q ∧ q ≤ 1000 + k) → (rdw sh Mx p s w (rset V 6 q) t W Y v) → (fr (fun z => z = p) M Mx) → (dgr t ((9 : Int) - k).toNat q = dgt t (V 6)) → ((9 : Int) - k).toNat < fuel → Go g 0 0 sh Mx sz 7 [(0, vr p), (1, vi (V 6)), (2, vi k)] [] := by
    intro fuel
    induction fuel with
    | zero => intro k q Mx hk hq hrd hfr hp hm_lp; exact absurd hm_lp (Nat.not_lt_zero _)
    | succ fuel ih_lp =>
      intro k q Mx hk hq hrd hfr hp hm_lp
      refine go_iload_n X d_Reader_takeDigits_7 rfl rfl ?_
      refine go_bipush (v := 9) X d_Reader_takeDigits_8 (by decide) ?_
      refine go_icmp_ge (tgt := 46) X d_Reader_takeDigits_10 rfl (by omega) (by omega) (fun hq1 => ?_) (fun hq1 => ?_)
      · skip
        refine go_aload_n X d_Reader_takeDigits_46 rfl rfl ?_
        refine go_iload_n X d_Reader_takeDigits_47 rfl rfl ?_
        refine go_aload_n X d_Reader_takeDigits_48 rfl rfl ?_
        refine go_get (v := vi q) X f_Reader_70 hrd.1 rfl d_Reader_takeDigits_49 (congrArg (s_v .int) (show Mx p 6 = q from (congrFun hrd.2.2.2.2.1 6).trans rset_at)) ?_
        refine go_cV (st2 := []) (r := []) X k_Reader_159 (c_Reader_setPiece l D hrd (b := V 6) (e := q)) hrd.1 rfl rfl (by omega) (Nat.le_of_ble_eq_true rfl) d_Reader_takeDigits_52 (by omega) (by omega) (fun v' sh' M2 sz' hpp => ?_)
        obtain ⟨e3, e4, e5, rd6, fr7⟩ := hpp
        subst e3
        rw [e4, e5]
        show Go g 0 0 sh M2 sz 55 [(0, vr p), (1, vi (V 6)), (2, vi k)] []
        have fr8 : fr (fun z => z = p) M M2 := fun z hz => by
          have hz1 : ¬ (z = p) := hz
          exact (fr7 z (by show ¬ (z = p); omega)).trans (hfr z hz)
        refine go_vret X d_Reader_takeDigits_55 rfl (by omega) (by omega) ?_
        have hfin : dgr t ((9 : Int) - k).toNat q = q := dgr_no (fun hlt => by omega)
        rw [← hp, hfin]
        exact ⟨rfl, rfl, rfl, rd6, fr8⟩
      · skip
        refine go_aload_n X d_Reader_takeDigits_13 rfl rfl ?_
        refine go_get (v := vr (p + 1)) X f_Reader_24 hrd.1 rfl d_Reader_takeDigits_14 (s_vref (show Mx p 2 = p + 1 from (congrFun hrd.2.2.2.2.1 2).trans (hrd.2.2.2.2.2.1.2.2.1)) (by omega)) ?_
        refine go_aload_n X d_Reader_takeDigits_17 rfl rfl ?_
        refine go_get (v := vi q) X f_Reader_70 hrd.1 rfl d_Reader_takeDigits_18 (congrArg (s_v .int) (show Mx p 6 = q from (congrFun hrd.2.2.2.2.1 6).trans rset_at)) ?_
        refine go_cVf (st2 := [vi (tg t q)]) (r := []) X k_Reader_76 (k_Text_at l D hrd.2.2.2.2.2.2.2.1 (by omega)) hrd.2.2.2.2.2.2.2.1.1.1 rfl rfl (by omega) (Nat.le_of_ble_eq_true rfl) d_Reader_takeDigits_21 (by omega) (by omega) rfl ?_
        have hr0 := hch q
        refine go_cSf (st2 := [vi (s_b (p_dig (tg t q)))]) (r := []) X k_Reader_146 (c_isDigit l D (by omega)) rfl rfl (by omega) (Nat.le_of_ble_eq_true rfl) d_Reader_takeDigits_24 (by omega) (by omega) rfl ?_
        refine go_ifb_eq (tgt := 46) X d_Reader_takeDigits_27 rfl (fun hq9 => ?_) (fun hq9 => ?_)
        · skip
          refine go_aload_n X d_Reader_takeDigits_46 rfl rfl ?_
          refine go_iload_n X d_Reader_takeDigits_47 rfl rfl ?_
          refine go_aload_n X d_Reader_takeDigits_48 rfl rfl ?_
          refine go_get (v := vi q) X f_Reader_70 hrd.1 rfl d_Reader_takeDigits_49 (congrArg (s_v .int) (show Mx p 6 = q from (congrFun hrd.2.2.2.2.1 6).trans rset_at)) ?_
          refine go_cV (st2 := []) (r := []) X k_Reader_159 (c_Reader_setPiece l D hrd (b := V 6) (e := q)) hrd.1 rfl rfl (by omega) (Nat.le_of_ble_eq_true rfl) d_Reader_takeDigits_52 (by omega) (by omega) (fun v' sh' M10 sz' hpp => ?_)
          obtain ⟨e11, e12, e13, rd14, fr15⟩ := hpp
          subst e11
          rw [e12, e13]
          show Go g 0 0 sh M10 sz 55 [(0, vr p), (1, vi (V 6)), (2, vi k)] []
          have fr16 : fr (fun z => z = p) M M10 := fun z hz => by
            have hz1 : ¬ (z = p) := hz
            exact (fr15 z (by show ¬ (z = p); omega)).trans (hfr z hz)
          refine go_vret X d_Reader_takeDigits_55 rfl (by omega) (by omega) ?_
          have hfin : dgr t ((9 : Int) - k).toNat q = q := dgr_no (fun hlt => hq9)
          rw [← hp, hfin]
          exact ⟨rfl, rfl, rfl, rd14, fr16⟩
        · skip
          refine go_aload_n X d_Reader_takeDigits_30 rfl rfl ?_
          refine go_dup X d_Reader_takeDigits_31 rfl ?_
          refine go_get (v := vi q) X f_Reader_70 hrd.1 rfl d_Reader_takeDigits_32 (congrArg (s_v .int) (show Mx p 6 = q from (congrFun hrd.2.2.2.2.1 6).trans rset_at)) ?_
          refine go_iconst (v := 1) X d_Reader_takeDigits_35 ?_
          refine go_iadd X d_Reader_takeDigits_36 ?_
          refine go_put (x := (q + 1)) (v := vi (q + 1)) X f_Reader_70 hrd.1 rfl d_Reader_takeDigits_37 rfl rfl rfl ?_
          generalize hM18 : m_s Mx p 6 (q + 1) = M17
          have rd19 : rdw sh M17 p s w (rset (rset V 6 q) 6 (q + 1)) t W Y v := by rw [← hM18]; exact hrd.put (by decide)
          have fr20 : fr (fun z => z = p) M M17 := fun z hz => by
            have hz1 : ¬ (z = p) := hz
            rw [← hM18]; exact (m_s_a (by omega)).trans (hfr z hz)
          have rd21 : rdw sh M17 p s w (rset V 6 (q + 1)) t W Y v := by have z := rd19; rw [rset_rset] at z; exact z
          have hn := (dgr_go (by omega) hq9).symm.trans hp
          refine go_iinc (v := 1) (x := k) (lv' := [(2, vi (k + 1)), (0, vr p), (1, vi (V 6))]) X d_Reader_takeDigits_40 rfl (by decide) rfl ?_
          refine go_goto (tgt := 7) X d_Reader_takeDigits_43 rfl ?_
          refine go_lv (lv' := [(0, vr p), (1, vi (V 6)), (2, vi (k + 1))]) X [1, 2, 0] rfl ?_
          exact ih_lp (k + 1) (q + 1) M17 (by omega) (by omega) rd21 fr20 hn (by omega)
  refine go_lv (lv' := [(0, vr p), (1, vi (V 6)), (2, vi 0)]) X [2, 1, 0] rfl ?_
  exact lp _ 0 (V 6) M (by omega) (by omega) (by rw [rset_self]; exact h) (fun z _ => rfl) rfl (Nat.lt_succ_self _)
