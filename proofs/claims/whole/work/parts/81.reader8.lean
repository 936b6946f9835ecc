/-- the next '@' from i on: found, the place behind it -/
def fat (t : List Int) : Nat → Int → Bool × Int
  | 0, i => (false, i)
  | m + 1, i => if tg t i = 64 then (true, i + 1) else fat t m (i + 1)
def fit (t : List Int) (i : Int) : Bool × Int := fat t ((t.length : Int) - i).toNat i
theorem fit_s {t : List Int} {i : Int} (h : i < t.length) : fit t i = if tg t i = 64 then (true, i + 1) else fit t (i + 1) := by
  unfold fit
  rw [show ((t.length : Int) - i).toNat = ((t.length : Int) - (i + 1)).toNat + 1 by omega]
  rfl
theorem fit_e {t : List Int} {i : Int} (h : (t.length : Int) ≤ i) : fit t i = (false, i) := by
  unfold fit
  rw [show ((t.length : Int) - i).toNat = 0 by omega]
  rfl
set_option maxHeartbeats 4000000 in
set_option maxRecDepth 100000 in
theorem c_Reader_noteWrong (l : Launch) (D : va_G) {sh : s_S} {M : s_M} {sz p s w : Int} {V : Int → Int} {t : List Int} {W : Int → Int} {Y : Int → List Int} {v : List Int} (h : rdw sh M p s w V t W Y v) {WN : Int → Int} (hWN : M w = WN) : Sp l D y_Reader_noteWrong prog_8_method_8_code 1 none 1 0 0 [vr p] sh M sz (fun v' sh' M' sz' => v' = none ∧ sh' = sh ∧ sz' = sz ∧ rdw sh M' p s w (rset V 7 (V 7 + 1)) t W Y v ∧ M' w = inc WN 1 ∧ fr (fun z => z = p ∨ z = w) M M') := by
  have hp0 := h.2.2.2.2.2.2.1
  have hch := h.2.2.2.2.2.2.2.1.rng
  have hln := h.2.2.2.2.2.2.2.1.len
  refine Sp.ofGo (own := "CiteForge$Reader") (nm := "noteWrong") (by decide) rfl rfl (Nat.le_of_ble_eq_true rfl) (lv := [(0, vr p)]) rfl ?_
  intro g X
  refine go_aload_n X d_Reader_noteWrong_0 rfl rfl ?_
  refine go_get (v := vr w) X f_Reader_15 h.1 rfl d_Reader_noteWrong_1 (s_varr (show M p 1 = w from (congrFun h.2.2.2.2.1 1).trans (h.2.2.2.2.2.1.2.1)) (by omega)) ?_
  refine go_iconst (v := 1) X d_Reader_noteWrong_4 ?_
  refine go_dup2 X d_Reader_noteWrong_5 rfl rfl ?_
  refine go_iald X h.2.2.2.1 (by omega) (by omega) d_Reader_noteWrong_6 ?_
  refine go_top (v' := vi (WN 1)) X (by rw [hWN]) ?_
  refine go_iconst (v := 1) X d_Reader_noteWrong_7 ?_
  refine go_iadd X d_Reader_noteWrong_8 ?_
  refine go_iast X h.2.2.2.1 (by omega) (by omega) d_Reader_noteWrong_9 ?_
  generalize hM2 : m_s M w 1 ((WN 1) + 1) = M1
  have rd3 : rdw sh M1 p s w (V) t W Y v := by rw [← hM2]; exact h.wrn
  have rw5 : M1 w = inc WN 1 := by rw [← hM2]; exact row_inc hWN
  have fr4 : fr (fun z => z = p ∨ z = w) M M1 := fun z hz => by
    have hz1 : ¬ (z = p ∨ z = w) := hz
    rw [← hM2]; exact (m_s_a (by omega))
  refine go_aload_n X d_Reader_noteWrong_10 rfl rfl ?_
  refine go_dup X d_Reader_noteWrong_11 rfl ?_
  refine go_get (v := vi (V 7)) X f_Reader_73 rd3.1 rfl d_Reader_noteWrong_12 (congrArg (s_v .int) (show M1 p 7 = V 7 from (congrFun rd3.2.2.2.2.1 7))) ?_
  refine go_iconst (v := 1) X d_Reader_noteWrong_15 ?_
  refine go_iadd X d_Reader_noteWrong_16 ?_
  refine go_put (x := ((V 7) + 1)) (v := vi ((V 7) + 1)) X f_Reader_73 h.1 rfl d_Reader_noteWrong_17 rfl rfl rfl ?_
  generalize hM7 : m_s M1 p 7 ((V 7) + 1) = M6
  have rd8 : rdw sh M6 p s w (rset V 7 ((V 7) + 1)) t W Y v := by rw [← hM7]; exact rd3.put (by decide)
  have fr9 : fr (fun z => z = p ∨ z = w) M M6 := fun z hz => by
    have hz1 : ¬ (z = p ∨ z = w) := hz
    rw [← hM7]; exact (m_s_a (by omega)).trans (fr4 z hz)
  have rw10 : M6 w = inc WN 1 := by rw [← hM7]; exact (m_s_a (by omega)).trans rw5
  refine go_vret X d_Reader_noteWrong_20 rfl (by omega) (by omega) ?_
  exact ⟨rfl, rfl, rfl, rd8, rw10, fr9⟩
set_option maxHeartbeats 4000000 in
set_option maxRecDepth 100000 in
theorem c_Reader_findItem (l : Launch) (D : va_G) {sh : s_S} {M : s_M} {sz p s w : Int} {V : Int → Int} {t : List Int} {W : Int → Int} {Y : Int → List Int} {v : List Int} (h : rdw sh M p s w V t W Y v) (hpl : 0 ≤ V 6 ∧ V 6 ≤ t.length) (hwr : 0 ≤ V 7 ∧ V 7 ≤ 1000) : Sp l D y_Reader_findItem prog_8_method_7_code 2 (some .boolean) 2 0 0 [vr p] sh M sz (fun v' sh' M' sz' => v' = some (vi (s_b (if 8 ≤ V 7 then false else (fit t (V 6)).1))) ∧ sh' = sh ∧ sz' = sz ∧ rdw sh M' p s w (if 8 ≤ V 7 then V else rset V 6 (fit t (V 6)).2) t W Y v ∧ fr (fun z => z = p) M M') := by
  have hp0 := h.2.2.2.2.2.2.1
  have hch := h.2.2.2.2.2.2.2.1.rng
  have hln := h.2.2.2.2.2.2.2.1.len
  refine Sp.ofGo (own := "CiteForge$Reader") (nm := "findItem") (by decide) rfl rfl (Nat.le_of_ble_eq_true rfl) (lv := [(0, vr p)]) rfl ?_
  intro g X
  refine go_aload_n X d_Reader_findItem_0 rfl rfl ?_
  refine go_get (v := vi (V 7)) X f_Reader_73 h.1 rfl d_Reader_findItem_1 (congrArg (s_v .int) (show M p 7 = V 7 from (congrFun h.2.2.2.2.1 7))) ?_
  refine go_bipush (v := 8) X d_Reader_findItem_4 (by decide) ?_
  refine go_icmp_lt (tgt := 11) X d_Reader_findItem_6 rfl (by omega) (by omega) (fun hq1 => ?_) (fun hq1 => ?_)
  · skip
    have lp : ∀ (fuel : Nat) (q : Int) (Mx : s_M), (0 ≤ q ∧ q ≤ t.length) → (rdw sh Mx p s w (rset V 6 q) t W Y v) → (fr (fun z => z = p) M Mx) → (fit t q = fit t (V 6)) → ((t.length : Int) - q).toNat < fuel → Go g 0 0 sh Mx sz 11 [(0, vr p)] [] := by
      intro fuel
      induction fuel with
      | zero => intro q Mx hq hrd hfr hp hm_lp; exact absurd hm_lp (Nat.not_lt_zero _)
      | succ fuel ih_lp =>
        intro q Mx hq hrd hfr hp hm_lp
        refine go_aload_n X d_Reader_findItem_11 rfl rfl ?_
        refine go_get (v := vi q) X f_Reader_70 hrd.1 rfl d_Reader_findItem_12 (congrArg (s_v .int) (show Mx p 6 = q from (congrFun hrd.2.2.2.2.1 6).trans rset_at)) ?_
        refine go_aload_n X d_Reader_findItem_15 rfl rfl ?_
        refine go_get (v := vr (p + 1)) X f_Reader_24 hrd.1 rfl d_Reader_findItem_16 (s_vref (show Mx p 2 = p + 1 from (congrFun hrd.2.2.2.2.1 2).trans (hrd.2.2.2.2.2.1.2.2.1)) (by omega)) ?_
        refine go_cVf (st2 := [vi (t.length : Int), vi q]) (r := [vi q]) X k_Reader_50 (k_Text_size l D hrd.2.2.2.2.2.2.2.1) hrd.2.2.2.2.2.2.2.1.1.1 rfl rfl (by omega) (Nat.le_of_ble_eq_true rfl) d_Reader_findItem_19 (by omega) (by omega) rfl ?_
        refine go_icmp_ge (tgt := 66) X d_Reader_findItem_22 rfl (by omega) (by omega) (fun hq2 => ?_) (fun hq2 => ?_)
        · skip
          refine go_iconst (v := 0) X d_Reader_findItem_66 ?_
          refine go_iret X d_Reader_findItem_67 rfl ?_ (by omega) (by omega) ?_
          · rfl
          rw [if_neg (show ¬ 8 ≤ V 7 by omega), if_neg (show ¬ 8 ≤ V 7 by omega)]
          rw [fit_e (by omega)] at hp
          rw [← hp]
          exact ⟨rfl, rfl, rfl, hrd, hfr⟩
        · skip
          refine go_aload_n X d_Reader_findItem_25 rfl rfl ?_
          refine go_get (v := vr (p + 1)) X f_Reader_24 hrd.1 rfl d_Reader_findItem_26 (s_vref (show Mx p 2 = p + 1 from (congrFun hrd.2.2.2.2.1 2).trans (hrd.2.2.2.2.2.1.2.2.1)) (by omega)) ?_
          refine go_aload_n X d_Reader_findItem_29 rfl rfl ?_
          refine go_get (v := vi q) X f_Reader_70 hrd.1 rfl d_Reader_findItem_30 (congrArg (s_v .int) (show Mx p 6 = q from (congrFun hrd.2.2.2.2.1 6).trans rset_at)) ?_
          refine go_cVf (st2 := [vi (tg t q)]) (r := []) X k_Reader_76 (k_Text_at l D hrd.2.2.2.2.2.2.2.1 (by omega)) hrd.2.2.2.2.2.2.2.1.1.1 rfl rfl (by omega) (Nat.le_of_ble_eq_true rfl) d_Reader_findItem_33 (by omega) (by omega) rfl ?_
          have hr0 := hch q
          refine go_bipush (v := 64) X d_Reader_findItem_36 (by decide) ?_
          refine go_icmp_ne (tgt := 45) X d_Reader_findItem_38 rfl (by omega) (by omega) (fun hq3 => ?_) (fun hq3 => ?_)
          · skip
            refine go_iconst (v := 0) X d_Reader_findItem_45 ?_
            refine go_istore_n (lv' := [(1, vi 0), (0, vr p)]) X d_Reader_findItem_46 rfl (by decide) rfl ?_
            refine go_aload_n X d_Reader_findItem_47 rfl rfl ?_
            refine go_dup X d_Reader_findItem_48 rfl ?_
            refine go_get (v := vi q) X f_Reader_70 hrd.1 rfl d_Reader_findItem_49 (congrArg (s_v .int) (show Mx p 6 = q from (congrFun hrd.2.2.2.2.1 6).trans rset_at)) ?_
            refine go_iconst (v := 1) X d_Reader_findItem_52 ?_
            refine go_iadd X d_Reader_findItem_53 ?_
            refine go_put (x := (q + 1)) (v := vi (q + 1)) X f_Reader_70 hrd.1 rfl d_Reader_findItem_54 rfl rfl rfl ?_
            generalize hM5 : m_s Mx p 6 (q + 1) = M4
            have rd6 : rdw sh M4 p s w (rset (rset V 6 q) 6 (q + 1)) t W Y v := by rw [← hM5]; exact hrd.put (by decide)
            have fr7 : fr (fun z => z = p) M M4 := fun z hz => by
              have hz1 : ¬ (z = p) := hz
              rw [← hM5]; exact (m_s_a (by omega)).trans (hfr z hz)
            refine go_iload_n X d_Reader_findItem_57 rfl rfl ?_
            refine go_if_eq (tgt := 63) X d_Reader_findItem_58 rfl (by omega) (fun _ => ?_) (fun h9 => absurd h9 (by decide))
            have rd8 : rdw sh M4 p s w (rset V 6 (q + 1)) t W Y v := by have z := rd6; rw [rset_rset] at z; exact z
            have hn := hp
            rw [fit_s (by omega), if_neg hq3] at hn
            refine go_goto (tgt := 11) X d_Reader_findItem_63 rfl ?_
            refine go_lv (lv' := [(0, vr p)]) X [1] rfl ?_
            exact ih_lp (q + 1) M4 (by omega) rd8 fr7 hn (by omega)
          · skip
            refine go_iconst (v := 1) X d_Reader_findItem_41 ?_
            refine go_goto (tgt := 46) X d_Reader_findItem_42 rfl ?_
            refine go_istore_n (lv' := [(1, vi 1), (0, vr p)]) X d_Reader_findItem_46 rfl (by decide) rfl ?_
            refine go_aload_n X d_Reader_findItem_47 rfl rfl ?_
            refine go_dup X d_Reader_findItem_48 rfl ?_
            refine go_get (v := vi q) X f_Reader_70 hrd.1 rfl d_Reader_findItem_49 (congrArg (s_v .int) (show Mx p 6 = q from (congrFun hrd.2.2.2.2.1 6).trans rset_at)) ?_
            refine go_iconst (v := 1) X d_Reader_findItem_52 ?_
            refine go_iadd X d_Reader_findItem_53 ?_
            refine go_put (x := (q + 1)) (v := vi (q + 1)) X f_Reader_70 hrd.1 rfl d_Reader_findItem_54 rfl rfl rfl ?_
            generalize hM10 : m_s Mx p 6 (q + 1) = M9
            have rd11 : rdw sh M9 p s w (rset (rset V 6 q) 6 (q + 1)) t W Y v := by rw [← hM10]; exact hrd.put (by decide)
            have fr12 : fr (fun z => z = p) M M9 := fun z hz => by
              have hz1 : ¬ (z = p) := hz
              rw [← hM10]; exact (m_s_a (by omega)).trans (hfr z hz)
            refine go_iload_n X d_Reader_findItem_57 rfl rfl ?_
            refine go_if_eq (tgt := 63) X d_Reader_findItem_58 rfl (by omega) (fun h9 => absurd h9 (by decide)) (fun _ => ?_)
            refine go_iconst (v := 1) X d_Reader_findItem_61 ?_
            refine go_iret X d_Reader_findItem_62 rfl ?_ (by omega) (by omega) ?_
            · rfl
            rw [if_neg (show ¬ 8 ≤ V 7 by omega), if_neg (show ¬ 8 ≤ V 7 by omega)]
            rw [fit_s (by omega), if_pos hq3] at hp
            rw [← hp]
            have hrd2 : rdw sh M9 p s w (rset V 6 (q + 1)) t W Y v := by have z := rd11; rw [rset_rset] at z; exact z
            exact ⟨rfl, rfl, rfl, hrd2, fr12⟩
    refine go_lv (lv' := [(0, vr p)]) X [0] rfl ?_
    exact lp _ (V 6) M (by omega) (by rw [rset_self]; exact h) (fun z _ => rfl) rfl (Nat.lt_succ_self _)
  · skip
    refine go_iconst (v := 0) X d_Reader_findItem_9 ?_
    refine go_iret X d_Reader_findItem_10 rfl ?_ (by omega) (by omega) ?_
    · rfl
    rw [if_pos (show 8 ≤ V 7 by omega), if_pos (show 8 ≤ V 7 by omega)]
    exact ⟨rfl, rfl, rfl, h, fun z _ => rfl⟩
