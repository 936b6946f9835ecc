/-- a string is kept: the texts, the words, the numbers, the warnings -/
def ksY (W : Int → Int) (Y : Int → List Int) (n u : Int) (v : List Int) : Int → List Int := if 0 ≤ fx W n u then lset Y (fx W n u) v else if 8 ≤ n then Y else lset Y n v
def ksW (W : Int → Int) (n u : Int) : Int → Int := if 0 ≤ fx W n u then W else if 8 ≤ n then W else rset W n u
def ksV (W : Int → Int) (u : Int) (V : Int → Int) : Int → Int := if 0 ≤ fx W (V 5) u then V else if 8 ≤ V 5 then V else rset V 5 (V 5 + 1)
def ksN (W : Int → Int) (n u : Int) (WN : Int → Int) : Int → Int := if 0 ≤ fx W n u then WN else if 8 ≤ n then inc WN 5 else WN
set_option maxHeartbeats 4000000 in
set_option maxRecDepth 100000 in
theorem c_Reader_keepString (l : Launch) (D : va_G) {sh : s_S} {M : s_M} {sz p s w : Int} {V : Int → Int} {t : List Int} {W : Int → Int} {Y : Int → List Int} {v : List Int} (h : rdw sh M p s w V t W Y v) (hst : 0 ≤ V 5 ∧ V 5 ≤ 8) {u : Int} (hu : rL u) {WN : Int → Int} (hWN : M w = WN) : Sp l D y_Reader_keepString prog_8_method_25_code 4 none 3 0 0 [vr p, vl u] sh M sz (fun v' sh' M' sz' => v' = none ∧ sh' = sh ∧ sz' = sz ∧ rdw sh M' p s w (ksV W u V) t (ksW W (V 5) u) (ksY W Y (V 5) u v) v ∧ M' w = ksN W (V 5) u WN ∧ fr (fun z => z = p ∨ z = w ∨ z = p + 3 ∨ (p + 5 ≤ z ∧ z ≤ p + 20)) M M') := by
  have hp0 := h.2.2.2.2.2.2.1
  have hch := h.2.2.2.2.2.2.2.1.rng
  have hln := h.2.2.2.2.2.2.2.1.len
  have hlv := h.2.2.2.2.2.2.2.2.2.2.2.len
  refine Sp.ofGo (own := "CiteForge$Reader") (nm := "keepString") (by decide) rfl rfl (Nat.le_of_ble_eq_true rfl) (lv := [(0, vr p), (1, vl u)]) rfl ?_
  intro g X
  refine go_aload_n X d_Reader_keepString_0 rfl rfl ?_
  refine go_lload_n X d_Reader_keepString_1 rfl rfl ?_
  refine go_cVf (st2 := [vi (fx W (V 5) u)]) (r := []) X k_Reader_163 (c_Reader_findString l D h hst hu) h.1 rfl rfl (by omega) (Nat.le_of_ble_eq_true rfl) d_Reader_keepString_2 (by omega) (by omega) rfl ?_
  have hfr9 := fx_rng (W := W) (n := V 5) (w := u) hst.1
  refine go_istore_n (lv' := [(3, vi (fx W (V 5) u)), (0, vr p), (1, vl u)]) X d_Reader_keepString_5 rfl (by decide) rfl ?_
  refine go_iload_n X d_Reader_keepString_6 rfl rfl ?_
  refine go_if_lt (tgt := 26) X d_Reader_keepString_7 rfl (by omega) (fun hq1 => ?_) (fun hq1 => ?_)
  · skip
    refine go_aload_n X d_Reader_keepString_26 rfl rfl ?_
    refine go_get (v := vi (V 5)) X f_Reader_66 h.1 rfl d_Reader_keepString_27 (congrArg (s_v .int) (show M p 5 = V 5 from (congrFun h.2.2.2.2.1 5))) ?_
    refine go_bipush (v := 8) X d_Reader_keepString_30 (by decide) ?_
    refine go_icmp_lt (tgt := 48) X d_Reader_keepString_32 rfl (by omega) (by omega) (fun hq2 => ?_) (fun hq2 => ?_)
    · skip
      refine go_aload_n X d_Reader_keepString_48 rfl rfl ?_
      refine go_get (v := vr (p + 3)) X f_Reader_31 h.1 rfl d_Reader_keepString_49 (s_varr (show M p 3 = p + 3 from (congrFun h.2.2.2.2.1 3).trans (h.2.2.2.2.2.1.2.2.2.1)) (by omega)) ?_
      refine go_aload_n X d_Reader_keepString_52 rfl rfl ?_
      refine go_get (v := vi (V 5)) X f_Reader_66 h.1 rfl d_Reader_keepString_53 (congrArg (s_v .int) (show M p 5 = V 5 from (congrFun h.2.2.2.2.1 5))) ?_
      refine go_lload_n X d_Reader_keepString_56 rfl rfl ?_
      refine go_last X h.2.1 (by omega) (by omega) d_Reader_keepString_57 ?_
      generalize hM4 : m_s M (p + 3) (V 5) u = M3
      have rd5 : rdw sh M3 p s w (V) t (rset W (V 5) u) Y v := by rw [← hM4]; exact h.wrd hu
      have rw7 : M3 w = WN := by rw [← hM4]; exact (m_s_a (by omega)).trans hWN
      have fr6 : fr (fun z => z = p ∨ z = w ∨ z = p + 3 ∨ (p + 5 ≤ z ∧ z ≤ p + 20)) M M3 := fun z hz => by
        have hz1 : ¬ (z = p ∨ z = w ∨ z = p + 3 ∨ (p + 5 ≤ z ∧ z ≤ p + 20)) := hz
        rw [← hM4]; exact (m_s_a (by omega))
      refine go_aload_n X d_Reader_keepString_58 rfl rfl ?_
      obtain ⟨er8, et9⟩ := rd5.2.2.2.2.2.2.2.2.2.2.1 (V 5) (by omega) (by omega)
      refine go_get (v := vr (p + 4)) X f_Reader_35 rd5.1 rfl d_Reader_keepString_59 (s_varr (show M3 p 4 = p + 4 from (congrFun rd5.2.2.2.2.1 4).trans (rd5.2.2.2.2.2.1.2.2.2.2.1)) (by omega)) ?_
      refine go_aload_n X d_Reader_keepString_62 rfl rfl ?_
      refine go_get (v := vi (V 5)) X f_Reader_66 rd5.1 rfl d_Reader_keepString_63 (congrArg (s_v .int) (show M3 p 5 = V 5 from (congrFun rd5.2.2.2.2.1 5))) ?_
      refine go_aald X h.2.2.1 (by omega) (by omega) d_Reader_keepString_66 ?_
      refine go_top (v' := vr (p + 4 + 1 + 2 * (V 5))) X (s_qref er8 (by omega)) ?_
      refine go_aload_n X d_Reader_keepString_67 rfl rfl ?_
      refine go_get (v := vr (p + 21)) X f_Reader_39 rd5.1 rfl d_Reader_keepString_68 (s_vref (show M3 p 11 = p + 21 from (congrFun rd5.2.2.2.2.1 11).trans (rd5.2.2.2.2.2.1.2.2.2.2.2)) (by omega)) ?_
      refine go_cV (st2 := []) (r := []) X k_Reader_189 (c_Text_setTo l D et9 rd5.2.2.2.2.2.2.2.2.2.2.2 (by omega)) et9.1.1 rfl rfl (by omega) (Nat.le_of_ble_eq_true rfl) d_Reader_keepString_71 (by omega) (by omega) (fun v' sh' M10 sz' hpp => ?_)
      obtain ⟨e1, e2, e3, tv11, fr12⟩ := hpp
      subst e1
      rw [e2, e3]
      clear e2 e3
      show Go g 0 0 sh M10 sz 74 [(3, vi (fx W (V 5) u)), (0, vr p), (1, vl u)] []
      have tv16 : tv sh M10 (p + 4 + 1 + 2 * (V 5)) 60 v := by rw [List.take_of_length_le hlv.1] at tv11; exact tv11
      have rd13 : rdw sh M10 p s w (V) t (rset W (V 5) u) (lset Y (V 5) v) v := rd5.str (by omega) tv16 fr12
      have rw15 : M10 w = WN := (fr12 w (by show ¬ (w = p + 4 + 1 + 2 * (V 5) ∨ w = p + 4 + 1 + 2 * (V 5) + 1); omega)).trans rw7
      have fr14 : fr (fun z => z = p ∨ z = w ∨ z = p + 3 ∨ (p + 5 ≤ z ∧ z ≤ p + 20)) M M10 := fun z hz => by
        have hz1 : ¬ (z = p ∨ z = w ∨ z = p + 3 ∨ (p + 5 ≤ z ∧ z ≤ p + 20)) := hz
        exact (fr12 z (by show ¬ (z = p + 4 + 1 + 2 * (V 5) ∨ z = p + 4 + 1 + 2 * (V 5) + 1); omega)).trans (fr6 z hz)
      refine go_aload_n X d_Reader_keepString_74 rfl rfl ?_
      refine go_dup X d_Reader_keepString_75 rfl ?_
      refine go_get (v := vi (V 5)) X f_Reader_66 rd13.1 rfl d_Reader_keepString_76 (congrArg (s_v .int) (show M10 p 5 = V 5 from (congrFun rd13.2.2.2.2.1 5))) ?_
      refine go_iconst (v := 1) X d_Reader_keepString_79 ?_
      refine go_iadd X d_Reader_keepString_80 ?_
      refine go_put (x := ((V 5) + 1)) (v := vi ((V 5) + 1)) X f_Reader_66 rd13.1 rfl d_Reader_keepString_81 rfl rfl rfl ?_
      generalize hM18 : m_s M10 p 5 ((V 5) + 1) = M17
      have rd19 : rdw sh M17 p s w (rset V 5 ((V 5) + 1)) t (rset W (V 5) u) (lset Y (V 5) v) v := by rw [← hM18]; exact rd13.put (by decide)
      have fr20 : fr (fun z => z = p ∨ z = w ∨ z = p + 3 ∨ (p + 5 ≤ z ∧ z ≤ p + 20)) M M17 := fun z hz => by
        have hz1 : ¬ (z = p ∨ z = w ∨ z = p + 3 ∨ (p + 5 ≤ z ∧ z ≤ p + 20)) := hz
        rw [← hM18]; exact (m_s_a (by omega)).trans (fr14 z hz)
      have rw21 : M17 w = WN := by rw [← hM18]; exact (m_s_a (by omega)).trans rw15
      refine go_vret X d_Reader_keepString_84 rfl (by omega) (by omega) ?_
      rw [show ksV W u V = rset V 5 (V 5 + 1) from (if_neg (by omega)).trans (if_neg (by omega)), show ksW W (V 5) u = rset W (V 5) u from (if_neg (by omega)).trans (if_neg (by omega)), show ksY W Y (V 5) u v = lset Y (V 5) v from (if_neg (by omega)).trans (if_neg (by omega)), show ksN W (V 5) u WN = WN from (if_neg (by omega)).trans (if_neg (by omega))]
      exact ⟨rfl, rfl, rfl, rd19, rw21, fr20⟩
    · skip
      refine go_aload_n X d_Reader_keepString_35 rfl rfl ?_
      refine go_get (v := vr w) X f_Reader_15 h.1 rfl d_Reader_keepString_36 (s_varr (show M p 1 = w from (congrFun h.2.2.2.2.1 1).trans (h.2.2.2.2.2.1.2.1)) (by omega)) ?_
      refine go_iconst (v := 5) X d_Reader_keepString_39 ?_
      refine go_dup2 X d_Reader_keepString_40 rfl rfl ?_
      refine go_iald X h.2.2.2.1 (by omega) (by omega) d_Reader_keepString_41 ?_
      refine go_top (v' := vi (WN 5)) X (by rw [hWN]) ?_
      refine go_iconst (v := 1) X d_Reader_keepString_42 ?_
      refine go_iadd X d_Reader_keepString_43 ?_
      refine go_iast X h.2.2.2.1 (by omega) (by omega) d_Reader_keepString_44 ?_
      generalize hM23 : m_s M w 5 ((WN 5) + 1) = M22
      have rd24 : rdw sh M22 p s w (V) t W Y v := by rw [← hM23]; exact h.wrn
      have rw26 : M22 w = inc WN 5 := by rw [← hM23]; exact row_inc hWN
      have fr25 : fr (fun z => z = p ∨ z = w ∨ z = p + 3 ∨ (p + 5 ≤ z ∧ z ≤ p + 20)) M M22 := fun z hz => by
        have hz1 : ¬ (z = p ∨ z = w ∨ z = p + 3 ∨ (p + 5 ≤ z ∧ z ≤ p + 20)) := hz
        rw [← hM23]; exact (m_s_a (by omega))
      refine go_goto (tgt := 84) X d_Reader_keepString_45 rfl ?_
      refine go_vret X d_Reader_keepString_84 rfl (by omega) (by omega) ?_
      rw [show ksV W u V = V from (if_neg (by omega)).trans (if_pos (by omega)), show ksW W (V 5) u = W from (if_neg (by omega)).trans (if_pos (by omega)), show ksY W Y (V 5) u v = Y from (if_neg (by omega)).trans (if_pos (by omega)), show ksN W (V 5) u WN = inc WN 5 from (if_neg (by omega)).trans (if_pos (by omega))]
      exact ⟨rfl, rfl, rfl, rd24, rw26, fr25⟩
  · skip
    refine go_aload_n X d_Reader_keepString_10 rfl rfl ?_
    obtain ⟨er27, et28⟩ := h.2.2.2.2.2.2.2.2.2.2.1 (fx W (V 5) u) (by omega) (by omega)
    refine go_get (v := vr (p + 4)) X f_Reader_35 h.1 rfl d_Reader_keepString_11 (s_varr (show M p 4 = p + 4 from (congrFun h.2.2.2.2.1 4).trans (h.2.2.2.2.2.1.2.2.2.2.1)) (by omega)) ?_
    refine go_iload_n X d_Reader_keepString_14 rfl rfl ?_
    refine go_aald X h.2.2.1 (by omega) (by omega) d_Reader_keepString_15 ?_
    refine go_top (v' := vr (p + 4 + 1 + 2 * (fx W (V 5) u))) X (s_qref er27 (by omega)) ?_
    refine go_aload_n X d_Reader_keepString_16 rfl rfl ?_
    refine go_get (v := vr (p + 21)) X f_Reader_39 h.1 rfl d_Reader_keepString_17 (s_vref (show M p 11 = p + 21 from (congrFun h.2.2.2.2.1 11).trans (h.2.2.2.2.2.1.2.2.2.2.2)) (by omega)) ?_
    refine go_cV (st2 := []) (r := []) X k_Reader_189 (c_Text_setTo l D et28 h.2.2.2.2.2.2.2.2.2.2.2 (by omega)) et28.1.1 rfl rfl (by omega) (Nat.le_of_ble_eq_true rfl) d_Reader_keepString_20 (by omega) (by omega) (fun v' sh' M29 sz' hpp => ?_)
    obtain ⟨e1, e2, e3, tv30, fr31⟩ := hpp
    subst e1
    rw [e2, e3]
    clear e2 e3
    show Go g 0 0 sh M29 sz 23 [(3, vi (fx W (V 5) u)), (0, vr p), (1, vl u)] []
    have tv35 : tv sh M29 (p + 4 + 1 + 2 * (fx W (V 5) u)) 60 v := by rw [List.take_of_length_le hlv.1] at tv30; exact tv30
    have rd32 : rdw sh M29 p s w (V) t W (lset Y (fx W (V 5) u) v) v := h.str (by omega) tv35 fr31
    have rw34 : M29 w = WN := (fr31 w (by show ¬ (w = p + 4 + 1 + 2 * (fx W (V 5) u) ∨ w = p + 4 + 1 + 2 * (fx W (V 5) u) + 1); omega)).trans hWN
    have fr33 : fr (fun z => z = p ∨ z = w ∨ z = p + 3 ∨ (p + 5 ≤ z ∧ z ≤ p + 20)) M M29 := fun z hz => by
      have hz1 : ¬ (z = p ∨ z = w ∨ z = p + 3 ∨ (p + 5 ≤ z ∧ z ≤ p + 20)) := hz
      exact (fr31 z (by show ¬ (z = p + 4 + 1 + 2 * (fx W (V 5) u) ∨ z = p + 4 + 1 + 2 * (fx W (V 5) u) + 1); omega))
    refine go_goto (tgt := 84) X d_Reader_keepString_23 rfl ?_
    refine go_vret X d_Reader_keepString_84 rfl (by omega) (by omega) ?_
    rw [show ksV W u V = V from if_pos (by omega), show ksW W (V 5) u = W from if_pos (by omega), show ksY W Y (V 5) u v = lset Y (fx W (V 5) u) v from if_pos (by omega), show ksN W (V 5) u WN = WN from if_pos (by omega)]
    exact ⟨rfl, rfl, rfl, rd32, rw34, fr33⟩
/-- what the reader's steps make of its numbers -/
def pbV (t : List Int) (V : Int → Int) : Int → Int := rset V 6 (pb t (V 6))
def bkV (t : List Int) (p : Int) (V : Int → Int) : Int → Int := if 0 ≤ brk t (V 6) then rset (spV V p (V 6 + 1) (brk t (V 6))) 6 (brk t (V 6) + 1) else rset V 6 (t.length : Int)
def qkV (t : List Int) (p : Int) (V : Int → Int) : Int → Int := if (qtk t (V 6)).1 = 1 then rset (spV V p (V 6 + 1) (qtk t (V 6)).2) 6 ((qtk t (V 6)).2 + 1) else rset V 6 (qtk t (V 6)).2
def dgV (t : List Int) (p : Int) (V : Int → Int) : Int → Int := spV (rset V 6 (dgt t (V 6))) p (V 6) (dgt t (V 6))
def wdV (t : List Int) (V : Int → Int) : Int → Int := rset V 6 (tkw t (V 6)).2
def sgV (t : List Int) (c : Int) (V : Int → Int) : Int → Int := rset V 6 (tsk t c (V 6)).2
/-- a piece is taken: whether, the numbers, the warnings -/
def tpc (t : List Int) (W : Int → Int) (Y : Int → List Int) (p : Int) (V WN : Int → Int) : Bool × (Int → Int) × (Int → Int) :=
  if tg t (pb t (V 6)) = 123 then (decide (0 ≤ brk t (pbV t V 6)), bkV t p (pbV t V), WN)
  else if tg t (pb t (V 6)) = 34 then (decide ((qtk t (pbV t V 6)).1 = 1), qkV t p (pbV t V), WN)
  else if p_dig (tg t (pb t (V 6))) = true then (true, dgV t p (pbV t V), WN)
  else if (tkw t (pbV t V 6)).1 = 0 then (false, wdV t (pbV t V), WN)
  else (true, tmV W Y p (tkw t (pbV t V 6)).1 (wdV t (pbV t V)), tmW W (tkw t (pbV t V 6)).1 (wdV t (pbV t V)) WN)
theorem pbV_pl {t : List Int} {V : Int → Int} : pbV t V 6 = pb t (V 6) := rset_at
theorem tkr_w {t : List Int} : ∀ (m : Nat) (k i w : Int), 0 ≤ k → 0 ≤ w ∧ 2 * w < pow8 k → k + m = 8 → 0 ≤ (tkr t m k i w).1 ∧ 2 * (tkr t m k i w).1 < 18446744073709551616
  | 0, k, i, w, h0, h1, h2 => by
    show 0 ≤ w ∧ 2 * w < 18446744073709551616
    have := pow8_le8 0 k h0 h2
    omega
  | m + 1, k, i, w, h0, h1, h2 => by
    unfold tkr
    split
    · rename_i hc
      exact tkr_w m (k + 1) (i + 1) (w + p_low (tg t i) * pow8 k) (by omega) (pw_half h1 (p_low_w hc) h0) (by omega)
    · have := pow8_le8 (m + 1) k h0 h2
      show 0 ≤ w ∧ 2 * w < 18446744073709551616
      omega
theorem tkw_rng (t : List Int) (i : Int) : rL (tkw t i).1 := by
  have := tkr_w (t := t) ((8 : Int) - 0).toNat 0 (pb t i) 0 (by omega) ⟨by decide, by decide +kernel⟩ (by decide)
  unfold tkw
  exact ⟨by omega, by omega⟩
theorem tkr_i {t : List Int} : ∀ (m : Nat) (k i w : Int), i ≤ (tkr t m k i w).2 ∧ (tkr t m k i w).2 ≤ i + m ∧ (i ≤ t.length → (tkr t m k i w).2 ≤ t.length)
  | 0, k, i, w => ⟨Int.le_refl _, by show i ≤ i + ((0 : Nat) : Int); omega, fun h => h⟩
  | m + 1, k, i, w => by
    unfold tkr
    split
    · rename_i hc
      obtain ⟨h1, h2, h3⟩ := tkr_i (t := t) m (k + 1) (i + 1) (w + p_low (tg t i) * pow8 k)
      refine ⟨by omega, by omega, fun h => h3 ?_⟩
      rcases Int.lt_or_le i t.length with q | q
      · omega
      · rw [tg_out (by omega)] at hc
        exact absurd hc (by decide)
    · exact ⟨Int.le_refl _, by omega, fun h => h⟩
set_option maxHeartbeats 4000000 in
set_option maxRecDepth 100000 in
theorem c_Reader_takePiece (l : Launch) (D : va_G) {sh : s_S} {M : s_M} {sz p s w : Int} {V : Int → Int} {t : List Int} {W : Int → Int} {Y : Int → List Int} {v : List Int} (h : rdw sh M p s w V t W Y v) (hpl : 0 ≤ V 6 ∧ V 6 ≤ t.length) (hst : 0 ≤ V 5 ∧ V 5 ≤ 8) {WN : Int → Int} (hWN : M w = WN) : Sp l D y_Reader_takePiece prog_8_method_13_code 4 (some .boolean) 4 0 0 [vr p] sh M sz (fun v' sh' M' sz' => v' = some (vi (s_b (tpc t W Y p V WN).1)) ∧ sh' = sh ∧ sz' = sz ∧ rdw sh M' p s w (tpc t W Y p V WN).2.1 t W Y v ∧ M' w = (tpc t W Y p V WN).2.2 ∧ fr (fun z => z = p ∨ z = w) M M') := by
  have hp0 := h.2.2.2.2.2.2.1
  have hch := h.2.2.2.2.2.2.2.1.rng
  have hln := h.2.2.2.2.2.2.2.1.len
  have hpr := pb_rng (t := t) hpl
  refine Sp.ofGo (own := "CiteForge$Reader") (nm := "takePiece") (by decide) rfl rfl (Nat.le_of_ble_eq_true rfl) (lv := [(0, vr p)]) rfl ?_
  intro g X
  refine go_aload_n X d_Reader_takePiece_0 rfl rfl ?_
  refine go_cV (st2 := []) (r := []) X k_Reader_137 (c_Reader_passBlanks l D h hpl) h.1 rfl rfl (by omega) (Nat.le_of_ble_eq_true rfl) d_Reader_takePiece_1 (by omega) (by omega) (fun v' sh' M1 sz' hpp => ?_)
  obtain ⟨e1, e2, e3, rd6, fr3⟩ := hpp
  subst e1
  rw [e2, e3]
  clear e2 e3
  show Go g 0 0 sh M1 sz 4 [(0, vr p)] []
  have rd2 : rdw sh M1 p s w (pbV t V) t W Y v := rd6
  clear rd6
  have rw5 : M1 w = WN := (fr3 w (by show ¬ (w = p); omega)).trans hWN
  have fr4 : fr (fun z => z = p ∨ z = w) M M1 := fun z hz => by
    have hz1 : ¬ (z = p ∨ z = w) := hz
    exact (fr3 z (by show ¬ (z = p); omega))
  have hp1 : 0 ≤ pbV t V 6 ∧ pbV t V 6 ≤ t.length := by rw [pbV_pl]; omega
  have hr0 := hch (pb t (V 6))
  refine go_aload_n X d_Reader_takePiece_4 rfl rfl ?_
  refine go_get (v := vr (p + 1)) X f_Reader_24 rd2.1 rfl d_Reader_takePiece_5 (s_vref (show M1 p 2 = p + 1 from (congrFun rd2.2.2.2.2.1 2).trans (rd2.2.2.2.2.2.1.2.2.1)) (by omega)) ?_
  refine go_aload_n X d_Reader_takePiece_8 rfl rfl ?_
  refine go_get (v := vi (pb t (V 6))) X f_Reader_70 rd2.1 rfl d_Reader_takePiece_9 (congrArg (s_v .int) (show M1 p 6 = pb t (V 6) from (congrFun rd2.2.2.2.2.1 6).trans pbV_pl)) ?_
  refine go_cVf (st2 := [vi (tg t (pb t (V 6)))]) (r := []) X k_Reader_76 (k_Text_at l D rd2.2.2.2.2.2.2.2.1 (by omega)) rd2.2.2.2.2.2.2.2.1.1.1 rfl rfl (by omega) (Nat.le_of_ble_eq_true rfl) d_Reader_takePiece_12 (by omega) (by omega) rfl ?_
  refine go_istore_n (lv' := [(1, vi (tg t (pb t (V 6)))), (0, vr p)]) X d_Reader_takePiece_15 rfl (by decide) rfl ?_
  refine go_iload_n X d_Reader_takePiece_16 rfl rfl ?_
  refine go_bipush (v := 123) X d_Reader_takePiece_17 (by decide) ?_
  refine go_icmp_ne (tgt := 27) X d_Reader_takePiece_19 rfl (by omega) (by omega) (fun hq7 => ?_) (fun hq7 => ?_)
  · skip
    refine go_iload_n X d_Reader_takePiece_27 rfl rfl ?_
    refine go_bipush (v := 34) X d_Reader_takePiece_28 (by decide) ?_
    refine go_icmp_ne (tgt := 38) X d_Reader_takePiece_30 rfl (by omega) (by omega) (fun hq8 => ?_) (fun hq8 => ?_)
    · skip
      refine go_iload_n X d_Reader_takePiece_38 rfl rfl ?_
      refine go_cSf (st2 := [vi (s_b (p_dig (tg t (pb t (V 6)))))]) (r := []) X k_Reader_146 (c_isDigit l D (by omega)) rfl rfl (by omega) (Nat.le_of_ble_eq_true rfl) d_Reader_takePiece_39 (by omega) (by omega) rfl ?_
      refine go_ifb_eq (tgt := 51) X d_Reader_takePiece_42 rfl (fun hq9 => ?_) (fun hq9 => ?_)
      · skip
        refine go_aload_n X d_Reader_takePiece_51 rfl rfl ?_
        refine go_cV (st2 := []) (r := []) X k_Reader_80 (c_Reader_takeWord l D rd2 hp1) rd2.1 rfl rfl (by omega) (Nat.le_of_ble_eq_true rfl) d_Reader_takePiece_52 (by omega) (by omega) (fun v' sh' M10 sz' hpp => ?_)
        obtain ⟨e1, e2, e3, rd15, fr12⟩ := hpp
        subst e1
        rw [e2, e3]
        clear e2 e3
        show Go g 0 0 sh M10 sz 55 [(1, vi (tg t (pb t (V 6)))), (0, vr p)] [vl ((tkw t (pbV t V 6)).1)]
        have rd11 : rdw sh M10 p s w (wdV t (pbV t V)) t W Y v := rd15
        clear rd15
        have rw14 : M10 w = WN := (fr12 w (by show ¬ (w = p); omega)).trans rw5
        have fr13 : fr (fun z => z = p ∨ z = w) M M10 := fun z hz => by
          have hz1 : ¬ (z = p ∨ z = w) := hz
          exact (fr12 z (by show ¬ (z = p); omega)).trans (fr4 z hz)
        have hwr := tkw_rng t (pbV t V 6)
        refine go_lstore_n (lv' := [(2, vl ((tkw t (pbV t V 6)).1)), (1, vi (tg t (pb t (V 6)))), (0, vr p)]) X d_Reader_takePiece_55 rfl (by decide) rfl ?_
        refine go_lload_n X d_Reader_takePiece_56 rfl rfl ?_
        refine go_lconst (x := 0) X d_Reader_takePiece_57 (by decide) ?_
        refine go_lcmp X (by omega) (by omega) d_Reader_takePiece_58 ?_
        have hc9 := s_cmp_rng ((tkw t (pbV t V 6)).1) 0
        refine go_if_ne (tgt := 64) X d_Reader_takePiece_59 rfl (by omega) (fun hq16 => ?_) (fun hq16 => ?_)
        · skip
          refine go_aload_n X d_Reader_takePiece_64 rfl rfl ?_
          refine go_lload_n X d_Reader_takePiece_65 rfl rfl ?_
          refine go_cV (st2 := []) (r := []) X k_Reader_152 (c_Reader_takeMeaning l D rd11 (by rw [show wdV t (pbV t V) 5 = V 5 from by simp [wdV, pbV, rset]]; exact hst) hwr rw14) rd11.1 rfl rfl (by omega) (Nat.le_of_ble_eq_true rfl) d_Reader_takePiece_66 (by omega) (by omega) (fun v' sh' M17 sz' hpp => ?_)
          obtain ⟨e1, e2, e3, rd22, rw21, fr19⟩ := hpp
          subst e1
          rw [e2, e3]
          clear e2 e3
          show Go g 0 0 sh M17 sz 69 [(2, vl ((tkw t (pbV t V 6)).1)), (1, vi (tg t (pb t (V 6)))), (0, vr p)] []
          have rd18 : rdw sh M17 p s w (tmV W Y p (tkw t (pbV t V 6)).1 (wdV t (pbV t V))) t W Y v := rd22
          clear rd22
          have fr20 : fr (fun z => z = p ∨ z = w) M M17 := fun z hz => by
            have hz1 : ¬ (z = p ∨ z = w) := hz
            exact (fr19 z (by show ¬ (z = p ∨ z = w); omega)).trans (fr13 z hz)
          refine go_iconst (v := 1) X d_Reader_takePiece_69 ?_
          refine go_iret X d_Reader_takePiece_70 rfl ?_ (by omega) (by omega) ?_
          · rfl
          have hT : tpc t W Y p V WN = (true, tmV W Y p (tkw t (pbV t V 6)).1 (wdV t (pbV t V)), tmW W (tkw t (pbV t V 6)).1 (wdV t (pbV t V)) WN) := (if_neg hq7).trans ((if_neg hq8).trans ((if_neg (by rw [hq9]; decide)).trans (if_neg (sc_ne hq16))))
          rw [hT]
          exact ⟨rfl, rfl, rfl, rd18, rw21, fr20⟩
        · skip
          refine go_iconst (v := 0) X d_Reader_takePiece_62 ?_
          refine go_iret X d_Reader_takePiece_63 rfl ?_ (by omega) (by omega) ?_
          · rfl
          have hT : tpc t W Y p V WN = (false, wdV t (pbV t V), WN) := (if_neg hq7).trans ((if_neg hq8).trans ((if_neg (by rw [hq9]; decide)).trans (if_pos (s_cmp0 hq16))))
          rw [hT]
          exact ⟨rfl, rfl, rfl, rd11, rw14, fr13⟩
      · skip
        refine go_aload_n X d_Reader_takePiece_45 rfl rfl ?_
        refine go_cV (st2 := []) (r := []) X k_Reader_149 (c_Reader_takeDigits l D rd2 hp1) rd2.1 rfl rfl (by omega) (Nat.le_of_ble_eq_true rfl) d_Reader_takePiece_46 (by omega) (by omega) (fun v' sh' M23 sz' hpp => ?_)
        obtain ⟨e1, e2, e3, rd28, fr25⟩ := hpp
        subst e1
        rw [e2, e3]
        clear e2 e3
        show Go g 0 0 sh M23 sz 49 [(1, vi (tg t (pb t (V 6)))), (0, vr p)] []
        have rd24 : rdw sh M23 p s w (dgV t p (pbV t V)) t W Y v := rd28
        clear rd28
        have rw27 : M23 w = WN := (fr25 w (by show ¬ (w = p); omega)).trans rw5
        have fr26 : fr (fun z => z = p ∨ z = w) M M23 := fun z hz => by
          have hz1 : ¬ (z = p ∨ z = w) := hz
          exact (fr25 z (by show ¬ (z = p); omega)).trans (fr4 z hz)
        refine go_iconst (v := 1) X d_Reader_takePiece_49 ?_
        refine go_iret X d_Reader_takePiece_50 rfl ?_ (by omega) (by omega) ?_
        · rfl
        have hT : tpc t W Y p V WN = (true, dgV t p (pbV t V), WN) := (if_neg hq7).trans ((if_neg hq8).trans (if_pos hq9))
        rw [hT]
        exact ⟨rfl, rfl, rfl, rd24, rw27, fr26⟩
    · skip
      refine go_aload_n X d_Reader_takePiece_33 rfl rfl ?_
      refine go_cV (st2 := []) (r := []) X k_Reader_143 (c_Reader_takeQuoted l D rd2 hp1) rd2.1 rfl rfl (by omega) (Nat.le_of_ble_eq_true rfl) d_Reader_takePiece_34 (by omega) (by omega) (fun v' sh' M29 sz' hpp => ?_)
      obtain ⟨e1, e2, e3, rd34, fr31⟩ := hpp
      subst e1
      rw [e2, e3]
      clear e2 e3
      show Go g 0 0 sh M29 sz 37 [(1, vi (tg t (pb t (V 6)))), (0, vr p)] [vi (s_b (decide ((qtk t (pbV t V 6)).1 = 1)))]
      have rd30 : rdw sh M29 p s w (qkV t p (pbV t V)) t W Y v := rd34
      clear rd34
      have rw33 : M29 w = WN := (fr31 w (by show ¬ (w = p); omega)).trans rw5
      have fr32 : fr (fun z => z = p ∨ z = w) M M29 := fun z hz => by
        have hz1 : ¬ (z = p ∨ z = w) := hz
        exact (fr31 z (by show ¬ (z = p); omega)).trans (fr4 z hz)
      refine go_iret X d_Reader_takePiece_37 rfl ?_ (by omega) (by omega) ?_
      · exact s_b_nar _
      have hT : tpc t W Y p V WN = ((decide ((qtk t (pbV t V 6)).1 = 1)), qkV t p (pbV t V), WN) := (if_neg hq7).trans (if_pos hq8)
      rw [hT]
      exact ⟨rfl, rfl, rfl, rd30, rw33, fr32⟩
  · skip
    refine go_aload_n X d_Reader_takePiece_22 rfl rfl ?_
    refine go_cV (st2 := []) (r := []) X k_Reader_140 (c_Reader_takeBraced l D rd2 hp1) rd2.1 rfl rfl (by omega) (Nat.le_of_ble_eq_true rfl) d_Reader_takePiece_23 (by omega) (by omega) (fun v' sh' M35 sz' hpp => ?_)
    obtain ⟨e1, e2, e3, rd40, fr37⟩ := hpp
    subst e1
    rw [e2, e3]
    clear e2 e3
    show Go g 0 0 sh M35 sz 26 [(1, vi (tg t (pb t (V 6)))), (0, vr p)] [vi (s_b (decide (0 ≤ brk t (pbV t V 6))))]
    have rd36 : rdw sh M35 p s w (bkV t p (pbV t V)) t W Y v := rd40
    clear rd40
    have rw39 : M35 w = WN := (fr37 w (by show ¬ (w = p); omega)).trans rw5
    have fr38 : fr (fun z => z = p ∨ z = w) M M35 := fun z hz => by
      have hz1 : ¬ (z = p ∨ z = w) := hz
      exact (fr37 z (by show ¬ (z = p); omega)).trans (fr4 z hz)
    refine go_iret X d_Reader_takePiece_26 rfl ?_ (by omega) (by omega) ?_
    · exact s_b_nar _
    have hT : tpc t W Y p V WN = ((decide (0 ≤ brk t (pbV t V 6))), bkV t p (pbV t V), WN) := if_pos hq7
    rw [hT]
    exact ⟨rfl, rfl, rfl, rd36, rw39, fr38⟩
