theorem pbl_rng {t : List Int} : ∀ (m : Nat) (i : Int), i ≤ pbl t m i ∧ pbl t m i ≤ i + m
  | 0, i => by show i ≤ i ∧ i ≤ i + ((0 : Nat) : Int); omega
  | m + 1, i => by
    unfold pbl
    split
    · have := pbl_rng (t := t) m (i + 1); omega
    · omega
theorem pb_rng {t : List Int} {i : Int} (h : 0 ≤ i ∧ i ≤ t.length) : i ≤ pb t i ∧ pb t i ≤ t.length := by
  have := pbl_rng (t := t) ((t.length : Int) - i).toNat i
  unfold pb
  omega
/-- a sign is taken -/
def tsk (t : List Int) (c i : Int) : Bool × Int := if tg t (pb t i) = c then (true, pb t i + 1) else (false, pb t i)
/-- a word is taken: its number, the place behind it -/
def tkr (t : List Int) : Nat → Int → Int → Int → Int × Int
  | 0, _, i, w => (w, i)
  | m + 1, k, i, w => if p_wc (tg t i) = true then tkr t m (k + 1) (i + 1) (w + p_low (tg t i) * pow8 k) else (w, i)
def tkw (t : List Int) (i : Int) : Int × Int := tkr t ((8 : Int) - 0).toNat 0 (pb t i) 0
theorem tkr_go {t : List Int} {k i w : Int} (hk : k < 8) (h : p_wc (tg t i) = true) : tkr t ((8 : Int) - k).toNat k i w = tkr t ((8 : Int) - (k + 1)).toNat (k + 1) (i + 1) (w + p_low (tg t i) * pow8 k) := by
  rw [show ((8 : Int) - k).toNat = ((8 : Int) - (k + 1)).toNat + 1 by omega]
  exact if_pos h
theorem tkr_no {t : List Int} {k i w : Int} (h : k < 8 → p_wc (tg t i) = false) : tkr t ((8 : Int) - k).toNat k i w = (w, i) := by
  by_cases hk : k < 8
  · rw [show ((8 : Int) - k).toNat = ((8 : Int) - (k + 1)).toNat + 1 by omega]
    exact if_neg (by rw [h hk]; decide)
  · rw [show ((8 : Int) - k).toNat = 0 by omega]
    rfl
set_option maxHeartbeats 4000000 in
set_option maxRecDepth 100000 in
theorem c_Reader_takeSign (l : Launch) (D : va_G) {sh : s_S} {M : s_M} {sz p s w : Int} {V : Int → Int} {t : List Int} {W : Int → Int} {Y : Int → List Int} {v : List Int} (h : rdw sh M p s w V t W Y v) (hpl : 0 ≤ V 6 ∧ V 6 ≤ t.length) {c : Int} (hc : 0 ≤ c ∧ c < 65536) : Sp l D y_Reader_takeSign prog_8_method_20_code 2 (some .boolean) 3 0 0 [vr p, vi c] sh M sz (fun v' sh' M' sz' => v' = some (vi (s_b (tsk t c (V 6)).1)) ∧ sh' = sh ∧ sz' = sz ∧ rdw sh M' p s w (rset V 6 (tsk t c (V 6)).2) t W Y v ∧ fr (fun z => z = p) M M') := by
  have hp0 := h.2.2.2.2.2.2.1
  have hch := h.2.2.2.2.2.2.2.1.rng
  have hln := h.2.2.2.2.2.2.2.1.len
  have hpr := pb_rng (t := t) hpl
  refine Sp.ofGo (own := "CiteForge$Reader") (nm := "takeSign") (by decide) rfl rfl (Nat.le_of_ble_eq_true rfl) (lv := [(0, vr p), (1, vi c)]) rfl ?_
  intro g X
  refine go_aload_n X d_Reader_takeSign_0 rfl rfl ?_
  refine go_cV (st2 := []) (r := []) X k_Reader_137 (c_Reader_passBlanks l D h hpl) h.1 rfl rfl (by omega) (Nat.le_of_ble_eq_true rfl) d_Reader_takeSign_1 (by omega) (by omega) (fun v' sh' M1 sz' hpp => ?_)
  obtain ⟨e2, e3, e4, rd5, fr6⟩ := hpp
  subst e2
  rw [e3, e4]
  show Go g 0 0 sh M1 sz 4 [(0, vr p), (1, vi c)] []
  have fr7 : fr (fun z => z = p) M M1 := fun z hz => by
    have hz1 : ¬ (z = p) := hz
    exact (fr6 z (by show ¬ (z = p); omega))
  refine go_aload_n X d_Reader_takeSign_4 rfl rfl ?_
  refine go_get (v := vr (p + 1)) X f_Reader_24 rd5.1 rfl d_Reader_takeSign_5 (s_vref (show M1 p 2 = p + 1 from (congrFun rd5.2.2.2.2.1 2).trans (rd5.2.2.2.2.2.1.2.2.1)) (by omega)) ?_
  refine go_aload_n X d_Reader_takeSign_8 rfl rfl ?_
  refine go_get (v := vi (pb t (V 6))) X f_Reader_70 rd5.1 rfl d_Reader_takeSign_9 (congrArg (s_v .int) (show M1 p 6 = pb t (V 6) from (congrFun rd5.2.2.2.2.1 6).trans rset_at)) ?_
  have hr0 := hch (pb t (V 6))
  refine go_cVf (st2 := [vi (tg t (pb t (V 6)))]) (r := []) X k_Reader_76 (k_Text_at l D rd5.2.2.2.2.2.2.2.1 (by omega)) rd5.2.2.2.2.2.2.2.1.1.1 rfl rfl (by omega) (Nat.le_of_ble_eq_true rfl) d_Reader_takeSign_12 (by omega) (by omega) rfl ?_
  refine go_iload_n X d_Reader_takeSign_15 rfl rfl ?_
  refine go_icmp_eq (tgt := 21) X d_Reader_takeSign_16 rfl (by omega) (by omega) (fun hq8 => ?_) (fun hq8 => ?_)
  · skip
    refine go_aload_n X d_Reader_takeSign_21 rfl rfl ?_
    refine go_dup X d_Reader_takeSign_22 rfl ?_
    refine go_get (v := vi (pb t (V 6))) X f_Reader_70 rd5.1 rfl d_Reader_takeSign_23 (congrArg (s_v .int) (show M1 p 6 = pb t (V 6) from (congrFun rd5.2.2.2.2.1 6).trans rset_at)) ?_
    refine go_iconst (v := 1) X d_Reader_takeSign_26 ?_
    refine go_iadd X d_Reader_takeSign_27 ?_
    refine go_put (x := ((pb t (V 6)) + 1)) (v := vi ((pb t (V 6)) + 1)) X f_Reader_70 rd5.1 rfl d_Reader_takeSign_28 rfl rfl rfl ?_
    generalize hM10 : m_s M1 p 6 ((pb t (V 6)) + 1) = M9
    have rd11 : rdw sh M9 p s w (rset (rset V 6 (pb t (V 6))) 6 ((pb t (V 6)) + 1)) t W Y v := by rw [← hM10]; exact rd5.put (by decide)
    have fr12 : fr (fun z => z = p) M M9 := fun z hz => by
      have hz1 : ¬ (z = p) := hz
      rw [← hM10]; exact (m_s_a (by omega)).trans (fr7 z hz)
    refine go_iconst (v := 1) X d_Reader_takeSign_31 ?_
    refine go_iret X d_Reader_takeSign_32 rfl ?_ (by omega) (by omega) ?_
    · rfl
    have hs : tsk t c (V 6) = (true, pb t (V 6) + 1) := if_pos hq8
    rw [hs]
    have hrd2 : rdw sh M9 p s w (rset V 6 (pb t (V 6) + 1)) t W Y v := by have z := rd11; rw [rset_rset] at z; exact z
    exact ⟨rfl, rfl, rfl, hrd2, fr12⟩
  · skip
    refine go_iconst (v := 0) X d_Reader_takeSign_19 ?_
    refine go_iret X d_Reader_takeSign_20 rfl ?_ (by omega) (by omega) ?_
    · rfl
    have hs : tsk t c (V 6) = (false, pb t (V 6)) := if_neg hq8
    rw [hs]
    exact ⟨rfl, rfl, rfl, rd5, fr7⟩
set_option maxHeartbeats 4000000 in
set_option maxRecDepth 100000 in
theorem c_Reader_takeWord (l : Launch) (D : va_G) {sh : s_S} {M : s_M} {sz p s w : Int} {V : Int → Int} {t : List Int} {W : Int → Int} {Y : Int → List Int} {v : List Int} (h : rdw sh M p s w V t W Y v) (hpl : 0 ≤ V 6 ∧ V 6 ≤ t.length) : Sp l D y_Reader_takeWord prog_8_method_19_code 4 (some .long) 3 0 0 [vr p] sh M sz (fun v' sh' M' sz' => v' = some (vl (tkw t (V 6)).1) ∧ sh' = sh ∧ sz' = sz ∧ rdw sh M' p s w (rset V 6 (tkw t (V 6)).2) t W Y v ∧ fr (fun z => z = p) M M') := by
  have hp0 := h.2.2.2.2.2.2.1
  have hch := h.2.2.2.2.2.2.2.1.rng
  have hln := h.2.2.2.2.2.2.2.1.len
  have hpr := pb_rng (t := t) hpl
  refine Sp.ofGo (own := "CiteForge$Reader") (nm := "takeWord") (by decide) rfl rfl (Nat.le_of_ble_eq_true rfl) (lv := [(0, vr p)]) rfl ?_
  intro g X
  refine go_aload_n X d_Reader_takeWord_0 rfl rfl ?_
  refine go_cV (st2 := []) (r := []) X k_Reader_137 (c_Reader_passBlanks l D h hpl) h.1 rfl rfl (by omega) (Nat.le_of_ble_eq_true rfl) d_Reader_takeWord_1 (by omega) (by omega) (fun v' sh' M1 sz' hpp => ?_)
  obtain ⟨e2, e3, e4, rd5, fr6⟩ := hpp
  subst e2
  rw [e3, e4]
  show Go g 0 0 sh M1 sz 4 [(0, vr p)] []
  have fr7 : fr (fun z => z = p) M M1 := fun z hz => by
    have hz1 : ¬ (z = p) := hz
    exact (fr6 z (by show ¬ (z = p); omega))
  refine go_lconst (x := 0) X d_Reader_takeWord_4 (by decide) ?_
  refine go_lstore_n (lv' := [(1, vl 0), (0, vr p)]) X d_Reader_takeWord_5 rfl (by decide) rfl ?_
  refine go_iconst (v := 0) X d_Reader_takeWord_6 ?_
  refine go_istore_n (lv' := [(3, vi 0), (1, vl 0), (0, vr p)]) X d_Reader_takeWord_7 rfl (by decide) rfl ?_
  have lp : ∀ (fuel : Nat) (k : Int) (q : Int) (u : Int) (Mx : s_M), (0 ≤ k ∧ k ≤ 8) → (0 ≤ q ∧ q ≤ 1000 + k) → (0 ≤ u ∧ u < pow8 k) → (rdw sh Mx p s w (rset V 6 q) t W Y v) → (fr (fun z => z = p) M Mx) → (tkr t ((8 : Int) - k).toNat k q u = tkw t (V 6)) → ((8 : Int) - k).toNat < fuel → Go g 0 0 sh Mx sz 8 [(0, vr p), (1, vl u), (3, vi k)] [] := by
    intro fuel
    induction fuel with
    | zero => intro k q u Mx hk hq hw hrd hfr hp hm_lp; exact absurd hm_lp (Nat.not_lt_zero _)
    | succ fuel ih_lp =>
      intro k q u Mx hk hq hw hrd hfr hp hm_lp
      refine go_iload_n X d_Reader_takeWord_8 rfl rfl ?_
      refine go_bipush (v := 8) X d_Reader_takeWord_9 (by decide) ?_
      refine go_icmp_ge (tgt := 70) X d_Reader_takeWord_11 rfl (by omega) (by omega) (fun hq8 => ?_) (fun hq8 => ?_)
      · skip
        refine go_lload_n X d_Reader_takeWord_70 rfl rfl ?_
        refine go_lret X d_Reader_takeWord_71 rfl (by omega) (by omega) ?_
        have hfin : tkr t ((8 : Int) - k).toNat k q u = (u, q) := tkr_no (fun hlt => by omega)
        rw [← hp, hfin]
        exact ⟨rfl, rfl, rfl, hrd, hfr⟩
      · skip
        refine go_aload_n X d_Reader_takeWord_14 rfl rfl ?_
        refine go_get (v := vr (p + 1)) X f_Reader_24 hrd.1 rfl d_Reader_takeWord_15 (s_vref (show Mx p 2 = p + 1 from (congrFun hrd.2.2.2.2.1 2).trans (hrd.2.2.2.2.2.1.2.2.1)) (by omega)) ?_
        refine go_aload_n X d_Reader_takeWord_18 rfl rfl ?_
        refine go_get (v := vi q) X f_Reader_70 hrd.1 rfl d_Reader_takeWord_19 (congrArg (s_v .int) (show Mx p 6 = q from (congrFun hrd.2.2.2.2.1 6).trans rset_at)) ?_
        refine go_cVf (st2 := [vi (tg t q)]) (r := []) X k_Reader_76 (k_Text_at l D hrd.2.2.2.2.2.2.2.1 (by omega)) hrd.2.2.2.2.2.2.2.1.1.1 rfl rfl (by omega) (Nat.le_of_ble_eq_true rfl) d_Reader_takeWord_22 (by omega) (by omega) rfl ?_
        have hr0 := hch q
        refine go_cSf (st2 := [vi (s_b (p_wc (tg t q)))]) (r := []) X k_Reader_173 (c_isWordCharacter l D (by omega)) rfl rfl (by omega) (Nat.le_of_ble_eq_true rfl) d_Reader_takeWord_25 (by omega) (by omega) rfl ?_
        refine go_ifb_eq (tgt := 70) X d_Reader_takeWord_28 rfl (fun hq9 => ?_) (fun hq9 => ?_)
        · skip
          refine go_lload_n X d_Reader_takeWord_70 rfl rfl ?_
          refine go_lret X d_Reader_takeWord_71 rfl (by omega) (by omega) ?_
          have hfin : tkr t ((8 : Int) - k).toNat k q u = (u, q) := tkr_no (fun hlt => hq9)
          rw [← hp, hfin]
          exact ⟨rfl, rfl, rfl, hrd, hfr⟩
        · skip
          have hb3 := p_low_w hq9
          have hb2 : 0 ≤ p_low (tg t q) ∧ p_low (tg t q) < 256 := by omega
          refine go_lload_n X d_Reader_takeWord_31 rfl rfl ?_
          refine go_aload_n X d_Reader_takeWord_32 rfl rfl ?_
          refine go_get (v := vr (p + 1)) X f_Reader_24 hrd.1 rfl d_Reader_takeWord_33 (s_vref (show Mx p 2 = p + 1 from (congrFun hrd.2.2.2.2.1 2).trans (hrd.2.2.2.2.2.1.2.2.1)) (by omega)) ?_
          refine go_aload_n X d_Reader_takeWord_36 rfl rfl ?_
          refine go_get (v := vi q) X f_Reader_70 hrd.1 rfl d_Reader_takeWord_37 (congrArg (s_v .int) (show Mx p 6 = q from (congrFun hrd.2.2.2.2.1 6).trans rset_at)) ?_
          refine go_cVf (st2 := [vi (tg t q), vl u]) (r := [vl u]) X k_Reader_76 (k_Text_at l D hrd.2.2.2.2.2.2.2.1 (by omega)) hrd.2.2.2.2.2.2.2.1.1.1 rfl rfl (by omega) (Nat.le_of_ble_eq_true rfl) d_Reader_takeWord_40 (by omega) (by omega) rfl ?_
          refine go_cSf (st2 := [vi (p_low (tg t q)), vl u]) (r := [vl u]) X k_Reader_176 (c_smallOf l D (by omega)) rfl rfl (by omega) (Nat.le_of_ble_eq_true rfl) d_Reader_takeWord_43 (by omega) (by omega) rfl ?_
          refine go_i2l X d_Reader_takeWord_46 (by omega) ?_
          refine go_bipush (v := 8) X d_Reader_takeWord_47 (by decide) ?_
          refine go_iload_n X d_Reader_takeWord_49 rfl rfl ?_
          refine go_imul X d_Reader_takeWord_50 ?_
          refine go_lshl (z := (p_low (tg t q)) * pow8 k) X d_Reader_takeWord_51 (l_shl (by omega) (by omega)) ?_
          refine go_lor (z := u + (p_low (tg t q)) * pow8 k) X d_Reader_takeWord_52 (l_or (by omega) (by omega) (by omega)) ?_
          refine go_lstore_n (lv' := [(1, vl (u + (p_low (tg t q)) * pow8 k)), (0, vr p), (3, vi k)]) X d_Reader_takeWord_53 rfl (by decide) rfl ?_
          refine go_aload_n X d_Reader_takeWord_54 rfl rfl ?_
          refine go_dup X d_Reader_takeWord_55 rfl ?_
          refine go_get (v := vi q) X f_Reader_70 hrd.1 rfl d_Reader_takeWord_56 (congrArg (s_v .int) (show Mx p 6 = q from (congrFun hrd.2.2.2.2.1 6).trans rset_at)) ?_
          refine go_iconst (v := 1) X d_Reader_takeWord_59 ?_
          refine go_iadd X d_Reader_takeWord_60 ?_
          refine go_put (x := (q + 1)) (v := vi (q + 1)) X f_Reader_70 hrd.1 rfl d_Reader_takeWord_61 rfl rfl rfl ?_
          generalize hM11 : m_s Mx p 6 (q + 1) = M10
          have rd12 : rdw sh M10 p s w (rset (rset V 6 q) 6 (q + 1)) t W Y v := by rw [← hM11]; exact hrd.put (by decide)
          have fr13 : fr (fun z => z = p) M M10 := fun z hz => by
            have hz1 : ¬ (z = p) := hz
            rw [← hM11]; exact (m_s_a (by omega)).trans (hfr z hz)
          have rd14 : rdw sh M10 p s w (rset V 6 (q + 1)) t W Y v := by have z := rd12; rw [rset_rset] at z; exact z
          have hn := (tkr_go (by omega) hq9).symm.trans hp
          refine go_iinc (v := 1) (x := k) (lv' := [(3, vi (k + 1)), (1, vl (u + (p_low (tg t q)) * pow8 k)), (0, vr p)]) X d_Reader_takeWord_64 rfl (by decide) rfl ?_
          refine go_goto (tgt := 8) X d_Reader_takeWord_67 rfl ?_
          refine go_lv (lv' := [(0, vr p), (1, vl (u + (p_low (tg t q)) * pow8 k)), (3, vi (k + 1))]) X [2, 1, 0] rfl ?_
          exact ih_lp (k + 1) (q + 1) (u + (p_low (tg t q)) * pow8 k) M10 (by omega) (by omega) (pw_next hw hb2 (by omega)) rd14 fr13 hn (by omega)
  refine go_lv (lv' := [(0, vr p), (1, vl 0), (3, vi 0)]) X [2, 1, 0] rfl ?_
  exact lp _ 0 (pb t (V 6)) 0 M1 (by omega) (by omega) (by decide) rd5 fr7 rfl (Nat.lt_succ_self _)
