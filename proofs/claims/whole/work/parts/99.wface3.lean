def ruk (ns : Int) (O Q Z L : Int → Int) (m f y : Int) (s : rnT) : Int := if (0 ≤ f ∧ f < 6) ∧ 0 ≤ y ∧ y ≤ 2 then (if (srn ns O Q Z L m f y s).1 = true then 0 else 2) else 1
set_option maxHeartbeats 4000000 in
set_option maxRecDepth 100000 in
theorem g_run (l : Launch) (hl : l.stackTraces = false) (D : va_G) {sh : s_S} {M : s_M} {sz o : Int} {s : rnT} {hd : Int} {ns : Int} {O : Int → Int} {Q : Int → Int} {Z : Int → Int} {nr : Int} {t : List Int} {WR : Int → Int} {YR : Int → List Int} {vR : List Int} {nc : Int} {m : Int} {WC : Int → Int} {L : Int → Int} (h : cwd sh M sz o s hd ns O Q Z nr t WR YR vR nc m WC L) {f y : Int} (hf : -2147483648 ≤ f ∧ f < 2147483648) (hy : -2147483648 ≤ y ∧ y < 2147483648) (hok : opk O Q Z) (hr : rok (zdn s)) : SpX l D y_CiteForge_run prog_1_method_13_code 3 (some .int) 36 (kc s.2.2.1.1 (srn ns O Q Z L m f y s).2.2.2.1.1 + 1) (91 * kc s.2.2.1.1 (srn ns O Q Z L m f y s).2.2.2.1.1 + 6) [vr o, vi f, vi y] sh M sz (fun v' sh' M' sz' => (ruk ns O Q Z L m f y s) = 0 ∧ v' = some (vi (srn ns O Q Z L m f y s).2.2.2.2.1) ∧ sz' = sz + ((kc s.2.2.1.1 (srn ns O Q Z L m f y s).2.2.2.1.1 : Nat) : Int) ∧ (∀ z, z < sz → sh' z = sh z) ∧ (∃ hd', cwd sh' M' sz' o ((srn ns O Q Z L m f y s).2) hd' ns O Q Z nr t WR YR vR nc m WC L) ∧ fr (fun z => (o ≤ z ∧ z ≤ o + 246) ∨ sz ≤ z) M M') (fun E sh' M' sz' => (E = "java/lang/IllegalArgumentException" ∧ sh' = sh ∧ M' = M ∧ sz' = sz + 1 ∧ (ruk ns O Q Z L m f y s) = 1) ∨ (E = "java/lang/UnsupportedOperationException" ∧ (ruk ns O Q Z L m f y s) = 2 ∧ (∃ zn : Int, sz' = zn + 1 ∧ zn = sz + ((kc s.2.2.1.1 (srn ns O Q Z L m f y s).2.2.2.1.1 : Nat) : Int)) ∧ (∀ z, z < sz → sh' z = sh z) ∧ (∃ hd', cwd sh' M' sz' o ((srn ns O Q Z L m f y s).2) hd' ns O Q Z nr t WR YR vR nc m WC L) ∧ fr (fun z => (o ≤ z ∧ z ≤ o + 246) ∨ sz ≤ z) M M')) := by
  have ho := h.sz
  obtain ⟨T1, T2, T3, U1, U2, hw⟩ := h.2.1
  refine SpX.ofGo hl (own := "CiteForge") (nm := "run") (by decide) rfl rfl (Nat.le_of_ble_eq_true rfl) (lv := [(0, vr o), (1, vi f), (2, vi y)]) rfl ?_
  intro g X XX
  refine go_iload_n X d_CiteForge_run_0 rfl rfl ?_
  refine go_cSf (st2 := [vi (s_b (decide (0 ≤ f ∧ f < 6)))]) (r := []) X k_CiteForge_162 (c_Machine_isFunction l D (by omega)) rfl rfl (by omega) (Nat.le_of_ble_eq_true rfl) d_CiteForge_run_1 (by omega) (by omega) rfl ?_
  refine go_ifb_eq (tgt := 16) X d_CiteForge_run_4 rfl (fun hq1 => ?_) (fun hq1 => ?_)
  · skip
    simp only [decide_eq_true_eq, decide_eq_false_iff_not] at hq1
    refine go_throw X XX x_K_IA d_CiteForge_run_16 d_CiteForge_run_19 d_CiteForge_run_20 d_CiteForge_run_23 (by omega) (by omega) (by omega) ?_
    exact Or.inl ⟨rfl, rfl, rfl, rfl, if_neg (by omega)⟩
  · skip
    simp only [decide_eq_true_eq, decide_eq_false_iff_not] at hq1
    refine go_iload_n X d_CiteForge_run_7 rfl rfl ?_
    refine go_if_lt (tgt := 16) X d_CiteForge_run_8 rfl (by omega) (fun hq2 => ?_) (fun hq2 => ?_)
    · skip
      refine go_throw X XX x_K_IA d_CiteForge_run_16 d_CiteForge_run_19 d_CiteForge_run_20 d_CiteForge_run_23 (by omega) (by omega) (by omega) ?_
      exact Or.inl ⟨rfl, rfl, rfl, rfl, if_neg (by omega)⟩
    · skip
      refine go_iload_n X d_CiteForge_run_11 rfl rfl ?_
      refine go_iconst (v := 2) X d_CiteForge_run_12 ?_
      refine go_icmp_le (tgt := 24) X d_CiteForge_run_13 rfl (by omega) (by omega) (fun hq3 => ?_) (fun hq3 => ?_)
      · skip
        refine go_aload_n X d_CiteForge_run_24 rfl rfl ?_
        refine go_get (v := vr (o + 225)) X f_CiteForge_57 h.1.1 rfl d_CiteForge_run_25 (s_vref h.1.2.2.2.2.2.2.2.1 (by omega)) ?_
        refine go_iload_n X d_CiteForge_run_28 rfl rfl ?_
        refine go_iload_n X d_CiteForge_run_29 rfl rfl ?_
        refine go_cV (st2 := []) (r := []) X k_CiteForge_178 (y_start l D h hok (by omega) (by omega) hr) hw.2.2.1.1 rfl rfl (by omega) (Nat.le_of_ble_eq_true rfl) d_CiteForge_run_30 (by omega) (by omega) (fun v' shn Mn zn hpp => ?_)
        obtain ⟨e1, ez, es, ⟨hd', hw9⟩, ef⟩ := hpp
        subst e1
        show Go g (0 + kc s.2.2.1.1 (srn ns O Q Z L m f y s).2.2.2.1.1) (0 + 91 * kc s.2.2.1.1 (srn ns O Q Z L m f y s).2.2.2.1.1) shn Mn zn 33 [(0, vr o), (1, vi f), (2, vi y)] [vi (s_b (srn ns O Q Z L m f y s).1)]
        obtain ⟨V1, V2, V3, V4, V5, hv⟩ := hw9.2.1
        refine go_ifb_ne (tgt := 44) X d_CiteForge_run_33 rfl (fun hq4 => ?_) (fun hq4 => ?_)
        · skip
          refine go_aload_n X d_CiteForge_run_44 rfl rfl ?_
          refine go_get (v := vr (o + 225)) X f_CiteForge_57 hw9.1.1 rfl d_CiteForge_run_45 (s_vref hw9.1.2.2.2.2.2.2.2.1 (by omega)) ?_
          refine go_cVf (st2 := [vi (srn ns O Q Z L m f y s).2.2.2.2.1]) (r := []) X k_CiteForge_185 (c_Machine_operationsDone l D hv.2.2.1 hv.2.2.2.2.2.2.2.2.1.2) hv.2.2.1.1 rfl rfl (by omega) (Nat.le_of_ble_eq_true rfl) d_CiteForge_run_48 (by omega) (by omega) rfl ?_
          refine go_iret X d_CiteForge_run_51 rfl ?_ (by omega) (by omega) ?_
          · rfl
          exact ⟨(if_pos (by omega)).trans (if_pos hq4), rfl, ez, es, ⟨hd', hw9⟩, ef⟩
        · skip
          refine go_throw X XX x_K_UO d_CiteForge_run_36 d_CiteForge_run_39 d_CiteForge_run_40 d_CiteForge_run_43 (by omega) (by omega) (by omega) ?_
          exact Or.inr ⟨rfl, (if_pos (by omega)).trans (if_neg (by rw [hq4]; decide)), ⟨zn, by omega, ez⟩, es, ⟨hd', hw9.mv (by omega) (fun z a b => ⟨rfl, rfl⟩)⟩, ef⟩
      · skip
        refine go_throw X XX x_K_IA d_CiteForge_run_16 d_CiteForge_run_19 d_CiteForge_run_20 d_CiteForge_run_23 (by omega) (by omega) (by omega) ?_
        exact Or.inl ⟨rfl, rfl, rfl, rfl, if_neg (by omega)⟩
theorem rdv.rdw {sh : s_S} {M : s_M} {p s w n : Int} {t : List Int} {W : Int → Int} {Y : Int → List Int} {v : List Int} (h : rdv sh M p s w n t W Y v) : rdw sh M p s w (M p) t W Y v := by
  obtain ⟨q1, q2, q3, q4, q5, q6, q7, q8, q9, q10, q11, q12, q13, q14, q15, q16, q17, q18, q19, q20, q21⟩ := h
  exact ⟨q1, q2, q3, q4, rfl, ⟨q5, q6, q7, q8, q9, q10⟩, ⟨q13, q14, q15, q16⟩, q17, q18, q19, q20, q21⟩
theorem rdw.rdv {sh : s_S} {M : s_M} {p s w : Int} {V : Int → Int} {t : List Int} {W : Int → Int} {Y : Int → List Int} {v : List Int} (h : rdw sh M p s w V t W Y v) (hn : 0 ≤ V 5 ∧ V 5 ≤ 8) : rdv sh M p s w (V 5) t W Y v := by
  obtain ⟨q1, q2, q3, q4, q5, q6, q7, q8, q9, q10, q11, q12⟩ := h
  obtain ⟨f1, f2, f3, f4, f5, f6⟩ := q6
  exact ⟨q1, q2, q3, q4, (congrFun q5 0).trans f1, (congrFun q5 1).trans f2, (congrFun q5 2).trans f3, (congrFun q5 3).trans f4, (congrFun q5 4).trans f5, (congrFun q5 11).trans f6, congrFun q5 5, hn, q7.1, q7.2.1, q7.2.2.1, q7.2.2.2, q8, q9, q10, q11, q12⟩
/-- the reader's state in a reading: numbers, words, texts, value, warnings; the shelf -/
abbrev rsS : Type := rsT × (Int → sen) × Int
def rdi (t : List Int) (p : Int) (q : rsS) : tiT := tif t q.1.2.1 q.1.2.2.1 p q.1.2.2.2.1 (rset q.1.1 6 (fit t (q.1.1 6)).2) q.1.2.2.2.2 q.2.1 q.2.2
def rdn (q : rsS) : rsS := ((rset q.1.1 7 (q.1.1 7 + 1), q.1.2.1, q.1.2.2.1, q.1.2.2.2.1, inc q.1.2.2.2.2 1), q.2)
def rd1 (t : List Int) (p : Int) (q : rsS) : rsS := if (rdi t p q).1 = true then (rdi t p q).2 else rdn (rdi t p q).2
/-- is there an item to read on at -/
def rdb (t : List Int) (q : rsS) : Bool := if 8 ≤ q.1.1 7 then false else (fit t (q.1.1 6)).1
def rdl (t : List Int) (p : Int) : Nat → rsS → rsS
  | 0, q => q
  | k + 1, q => if rdb t q = true then rdl t p k (rd1 t p q) else q
theorem tpc_w {t : List Int} {W : Int → Int} {Y : Int → List Int} {p : Int} {V WN : Int → Int} : (tpc t W Y p V WN).2.1 7 = V 7 := by
  unfold tpc
  split
  · show bkV t p (pbV t V) 7 = V 7
    unfold bkV
    split <;> simp [spV, pbV, rset]
  · split
    · show qkV t p (pbV t V) 7 = V 7
      unfold qkV
      split <;> simp [spV, pbV, rset]
    · split
      · simp [dgV, spV, pbV, rset]
      · split
        · simp [wdV, pbV, rset]
        · show tmV W Y p _ (wdV t (pbV t V)) 7 = V 7
          unfold tmV
          split <;> simp [wdV, spV, pbV, rset]
theorem tv1_w {t : List Int} {W : Int → Int} {Y : Int → List Int} {p : Int} {s : tvT} (hb : bok s.2.1) : (tv1 t W Y p s).2.2.2.1 7 = s.2.1 7 := by
  have hvb := tpc_b (t := t) (W := W) (Y := Y) (p := p) (WN := s.2.2) hb
  obtain ⟨ha1, -, -⟩ := apc_ok (u := ptx t Y p (tpc t W Y p s.2.1 s.2.2).2.1) (b := (tpc t W Y p s.2.1 s.2.2).2.1 9) (e := (tpc t W Y p s.2.1 s.2.2).2.1 10) (v := s.1) hvb.1 hvb.2
  have e1 : (tvA t W Y p s).2 7 = (tpc t W Y p s.2.1 s.2.2).2.1 7 := ha1 7 (by decide) (by decide)
  unfold tv1
  split
  · show sgV t 35 (tvA t W Y p s).2 7 = _
    rw [show sgV t 35 (tvA t W Y p s).2 7 = (tvA t W Y p s).2 7 from by simp [sgV, rset], e1]
    exact tpc_w
  · exact tpc_w
theorem tvl_w {t : List Int} {W : Int → Int} {Y : Int → List Int} {p : Int} (ht : t.length ≤ 320) (hY : ∀ k : Int, 0 ≤ k → k < 8 → (Y k).length ≤ 60) : ∀ (m : Nat) (b : Bool) (s : tvT), vok t s.2.1 → bok s.2.1 → (tvl t W Y p m b s).2.2.1 7 = s.2.1 7
  | 0, b, s, h, hb => rfl
  | m + 1, b, s, h, hb => by
    have h1 := tv1_ok (W := W) (p := p) h hb ht hY
    have h2 := tv1_w (t := t) (W := W) (Y := Y) (p := p) hb
    unfold tvl
    split
    · split
      · exact (tvl_w (W := W) (p := p) ht hY m (tv1 t W Y p s).2.1 (tv1 t W Y p s).2.2 h1.1 h1.2.2).trans h2
      · exact h2
    · rfl
theorem tvf_w {t : List Int} {W : Int → Int} {Y : Int → List Int} {p : Int} {V WN : Int → Int} (h : vok t V) (ht : t.length ≤ 320) (hY : ∀ k : Int, 0 ≤ k → k < 8 → (Y k).length ≤ 60) : (tvf t W Y p V WN).2.2.1 7 = V 7 := by
  obtain ⟨h1, h2⟩ := h
  have h0 : vok t (rset (rset V 12 0) 13 0) := by
    refine ⟨?_, ?_⟩ <;> simp [rset] <;> omega
  have h9 : bok (rset (rset V 12 0) 13 0) := by
    refine ⟨?_, ?_⟩ <;> simp [rset]
  exact (tvl_w (W := W) (p := p) ht hY ((320 : Int) - 0).toNat true ([], rset (rset V 12 0) 13 0, WN) h0 h9).trans (by simp [rset])
theorem sg_w (t : List Int) (c : Int) (V : Int → Int) : sgV t c V 7 = V 7 := by simp [sgV, rset]
theorem wd_w (t : List Int) (V : Int → Int) : wdV t V 7 = V 7 := by simp [wdV, rset]
theorem wv1_w {t : List Int} {W : Int → Int} {Y : Int → List Int} {p : Int} {v : List Int} {V WN : Int → Int} (h : vok t V) (ht : t.length ≤ 320) (hY : ∀ k : Int, 0 ≤ k → k < 8 → (Y k).length ≤ 60) : (wv1 t W Y p v V WN).2.2.2.1 7 = V 7 := by
  obtain ⟨a1, -⟩ := wdV_ok h
  obtain ⟨b1, -⟩ := sgV_ok (c := 61) a1 (by decide)
  unfold wv1
  split
  · exact wd_w t V
  · split
    · exact (tvf_w (W := W) (p := p) (WN := WN) b1 ht hY).trans ((sg_w t 61 (wdV t V)).trans (wd_w t V))
    · exact (sg_w t 61 (wdV t V)).trans (wd_w t V)
theorem ksV_ok {t : List Int} {W V : Int → Int} {u : Int} (h : vok t V) : vok t (ksV W u V) ∧ ksV W u V 7 = V 7 := by
  obtain ⟨h1, h2⟩ := h
  unfold ksV
  split
  · exact ⟨⟨h1, h2⟩, rfl⟩
  · split
    · exact ⟨⟨h1, h2⟩, rfl⟩
    · refine ⟨⟨?_, ?_⟩, by simp [rset]⟩ <;> simp [rset] <;> omega
theorem tsf_ok {t : List Int} {W : Int → Int} {Y : Int → List Int} {p : Int} {v : List Int} {V WN : Int → Int} (h : vok t V) (ht : t.length ≤ 320) (hY : ∀ k : Int, 0 ≤ k → k < 8 → (Y k).length ≤ 60) : vok t (tsf t W Y p v V WN).2.1 ∧ (tsf t W Y p v V WN).2.1 7 = V 7 := by
  have h1 := wv1_ok (W := W) (p := p) (v := v) (WN := WN) h ht hY
  have h2 := wv1_w (W := W) (p := p) (v := v) (WN := WN) h ht hY
  have h3 := sgV_ok (c := 125) h1.1 (by decide)
  unfold tsf
  split
  · split
    · have h4 := ksV_ok (W := W) (u := (wv1 t W Y p v V WN).2.1) h3.1
      exact ⟨h4.1, h4.2.trans ((sg_w t 125 (wv1 t W Y p v V WN).2.2.2.1).trans h2)⟩
    · exact ⟨h3.1, (sg_w t 125 (wv1 t W Y p v V WN).2.2.2.1).trans h2⟩
  · exact ⟨h1.1, h2⟩
theorem te1_ok {t : List Int} {W : Int → Int} {Y : Int → List Int} {p : Int} {s : teT} (h : vok t s.1.2.1) (ht : t.length ≤ 320) (hY : ∀ k : Int, 0 ≤ k → k < 8 → (Y k).length ≤ 60) : vok t (te1 t W Y p s).2.1.2.1 ∧ (te1 t W Y p s).2.1.2.1 7 = s.1.2.1 7 := by
  have h1 := sgV_ok (c := 44) h (by decide)
  have h2 := sgV_ok (c := 125) h1.1 (by decide)
  have h3 := wv1_ok (W := W) (p := p) (v := s.1.1) (WN := s.1.2.2) h2.1 ht hY
  have h4 := wv1_w (W := W) (p := p) (v := s.1.1) (WN := s.1.2.2) h2.1 ht hY
  unfold te1
  split
  · split
    · exact ⟨h2.1, (sg_w t 125 (sgV t 44 s.1.2.1)).trans (sg_w t 44 s.1.2.1)⟩
    · split
      · exact ⟨h3.1, h4.trans ((sg_w t 125 (sgV t 44 s.1.2.1)).trans (sg_w t 44 s.1.2.1))⟩
      · exact ⟨h3.1, h4.trans ((sg_w t 125 (sgV t 44 s.1.2.1)).trans (sg_w t 44 s.1.2.1))⟩
  · exact ⟨h1.1, sg_w t 44 s.1.2.1⟩
theorem tel_ok {t : List Int} {W : Int → Int} {Y : Int → List Int} {p : Int} (ht : t.length ≤ 320) (hY : ∀ k : Int, 0 ≤ k → k < 8 → (Y k).length ≤ 60) : ∀ (m : Nat) (b : Bool) (s : teT), vok t s.1.2.1 → vok t (tel t W Y p m b s).2.1.2.1 ∧ (tel t W Y p m b s).2.1.2.1 7 = s.1.2.1 7
  | 0, b, s, h => ⟨h, rfl⟩
  | m + 1, b, s, h => by
    have h1 := te1_ok (W := W) (p := p) h ht hY
    unfold tel
    split
    · exact ⟨h, rfl⟩
    · split
      · have h2 := tel_ok (W := W) (p := p) ht hY m false (te1 t W Y p s).2 h1.1
        exact ⟨h2.1, h2.2.trans h1.2⟩
      · exact h1
theorem ten_ok {t : List Int} {W : Int → Int} {Y : Int → List Int} {p : Int} {v : List Int} {V WN : Int → Int} {ty : Int} {E : Int → sen} {n : Int} (h : vok t V) (ht : t.length ≤ 320) (hY : ∀ k : Int, 0 ≤ k → k < 8 → (Y k).length ≤ 60) : vok t (ten t W Y p v V WN ty E n).2.1.2.1 ∧ (ten t W Y p v V WN ty E n).2.1.2.1 7 = V 7 := by
  have h1 := wdV_ok h
  have h2 := tel_ok (W := W) (p := p) ht hY ((320 : Int) - 0).toNat false ((v, wdV t V, WN), bge (E n) (tkw t (V 6)).1 ty) h1.1
  have h3 : vok t (tec t (tef t W Y p v V WN ty (E n))).2.1.2.1 ∧ (tec t (tef t W Y p v V WN ty (E n))).2.1.2.1 7 = V 7 := by
    have e2 : (tef t W Y p v V WN ty (E n)).2.1.2.1 7 = V 7 := h2.2.trans (wd_w t V)
    unfold tec
    split
    · exact ⟨h2.1, e2⟩
    · split
      · exact ⟨h2.1, e2⟩
      · exact ⟨(sgV_ok (c := 125) h2.1 (by decide)).1, (sg_w t 125 (tef t W Y p v V WN ty (E n)).2.1.2.1).trans e2⟩
  unfold ten
  split
  · exact ⟨h1.1, wd_w t V⟩
  · split
    · exact h3
    · exact h3
theorem tif_ok {t : List Int} {W : Int → Int} {Y : Int → List Int} {p : Int} {v : List Int} {V WN : Int → Int} {E : Int → sen} {n : Int} (h : vok t V) (ht : t.length ≤ 320) (hY : ∀ k : Int, 0 ≤ k → k < 8 → (Y k).length ≤ 60) : vok t (tif t W Y p v V WN E n).2.1.1 ∧ (tif t W Y p v V WN E n).2.1.1 7 = V 7 := by
  have h1 := wdV_ok h
  have h2 := sgV_ok (c := 123) h1.1 (by decide)
  have e2 : sgV t 123 (wdV t V) 7 = V 7 := (sg_w t 123 (wdV t V)).trans (wd_w t V)
  unfold tif
  split
  · exact ⟨h1.1, wd_w t V⟩
  · split
    · split
      · exact ⟨h2.1, e2⟩
      · split
        · have := tsf_ok (W := W) (p := p) (v := v) (WN := WN) h2.1 ht hY
          exact ⟨this.1, this.2.trans e2⟩
        · have := ten_ok (W := W) (p := p) (v := v) (WN := WN) (ty := (tkw t (V 6)).1) (E := E) (n := n) h2.1 ht hY
          exact ⟨this.1, this.2.trans e2⟩
    · exact ⟨h2.1, e2⟩
theorem fat_rng {t : List Int} : ∀ (m : Nat) (i : Int), i ≤ (fat t m i).2 ∧ (fat t m i).2 ≤ i + m
  | 0, i => by show i ≤ i ∧ i ≤ i + ((0 : Nat) : Int); omega
  | m + 1, i => by
    unfold fat
    split
    · show i ≤ i + 1 ∧ i + 1 ≤ i + ((m + 1 : Nat) : Int)
      omega
    · have := fat_rng (t := t) m (i + 1)
      omega
theorem fit_rng {t : List Int} {i : Int} (h : 0 ≤ i ∧ i ≤ t.length) : 0 ≤ (fit t i).2 ∧ (fit t i).2 ≤ t.length := by
  have := fat_rng (t := t) ((t.length : Int) - i).toNat i
  unfold fit
  omega
theorem cwd.read {sh : s_S} {M : s_M} {sz o : Int} {s : rnT} {hd : Int} {ns : Int} {O : Int → Int} {Q : Int → Int} {Z : Int → Int} {nr : Int} {t : List Int} {WR : Int → Int} {YR : Int → List Int} {vR : List Int} {nc : Int} {m : Int} {WC : Int → Int} {L : Int → Int} {M' : s_M} (h : cwd sh M sz o s hd ns O Q Z nr t WR YR vR nc m WC L) {nr' ns' : Int} {WR' WN' : Int → Int} {YR' : Int → List Int} {vR' : List Int} {E' : Int → sen} (hr : rdv sh M' (o + 157) (o + 2) (o + 1) nr' t WR' YR' vR') (hw : M' (o + 1) = WN') (hs : shv sh M' (o + 2) (o + 1) ns' E') (hf : fr (fun z => z = o + 1 ∨ (o + 2 ≤ z ∧ z < o + 157) ∨ (o + 157 ≤ z ∧ z ≤ o + 179)) M M') : cwd sh M' sz o ((WN', s.1.2), (s.2.1.1, E'), s.2.2) hd ns' O Q Z nr' t WR' YR' vR' nc m WC L := by
  obtain ⟨hc, ⟨T1, T2, T3, U1, U2, h⟩, hR, hC, hH⟩ := h
  obtain ⟨q1, q2, q3, q4, q5, q6, q7, q8, q9, q10, q11, ⟨A, q12⟩, q13, q14, q15⟩ := h
  exact ⟨hc.mv ⟨rfl, hf o (by show ¬ (o = o + 1 ∨ (o + 2 ≤ o ∧ o < o + 157) ∨ (o + 157 ≤ o ∧ o ≤ o + 179)); omega)⟩, ⟨T1, T2, T3, U1, U2, ⟨⟨q1.1, hw⟩, q2.mv (fun z a b => ⟨rfl, hf z (by show ¬ (z = o + 1 ∨ (o + 2 ≤ z ∧ z < o + 157) ∨ (o + 157 ≤ z ∧ z ≤ o + 179)); omega)⟩) rfl, q3.mv (fun z a b => ⟨rfl, hf z (by show ¬ (z = o + 1 ∨ (o + 2 ≤ z ∧ z < o + 157) ∨ (o + 157 ≤ z ∧ z ≤ o + 179)); omega)⟩), q4.mv (fun z a b => ⟨rfl, hf z (by show ¬ (z = o + 1 ∨ (o + 2 ≤ z ∧ z < o + 157) ∨ (o + 157 ≤ z ∧ z ≤ o + 179)); omega)⟩), q5.mv (fun z a b => ⟨rfl, hf z (by show ¬ (z = o + 1 ∨ (o + 2 ≤ z ∧ z < o + 157) ∨ (o + 157 ≤ z ∧ z ≤ o + 179)); omega)⟩), q6.mv (fun z a b => ⟨rfl, hf z (by show ¬ (z = o + 1 ∨ (o + 2 ≤ z ∧ z < o + 157) ∨ (o + 157 ≤ z ∧ z ≤ o + 179)); omega)⟩), q7.mv (fun z a b => ⟨rfl, hf z (by show ¬ (z = o + 1 ∨ (o + 2 ≤ z ∧ z < o + 157) ∨ (o + 157 ≤ z ∧ z ≤ o + 179)); omega)⟩), q8.mv (fun z a b => ⟨rfl, hf z (by show ¬ (z = o + 1 ∨ (o + 2 ≤ z ∧ z < o + 157) ∨ (o + 157 ≤ z ∧ z ≤ o + 179)); omega)⟩), ⟨(congrFun (hf (o + 225) (by show ¬ ((o + 225) = o + 1 ∨ (o + 2 ≤ (o + 225) ∧ (o + 225) < o + 157) ∨ (o + 157 ≤ (o + 225) ∧ (o + 225) ≤ o + 179)); omega)) _).trans q9.1, (congrFun (hf (o + 225) (by show ¬ ((o + 225) = o + 1 ∨ (o + 2 ≤ (o + 225) ∧ (o + 225) < o + 157) ∨ (o + 157 ≤ (o + 225) ∧ (o + 225) ≤ o + 179)); omega)) _).trans q9.2⟩, hs, q11.mv (fun z a b => ⟨rfl, hf z (by show ¬ (z = o + 1 ∨ (o + 2 ≤ z ∧ z < o + 157) ∨ (o + 157 ≤ z ∧ z ≤ o + 179)); omega)⟩), ⟨A, q12.mv (hf (o + 224) (by show ¬ ((o + 224) = o + 1 ∨ (o + 2 ≤ (o + 224) ∧ (o + 224) < o + 157) ∨ (o + 157 ≤ (o + 224) ∧ (o + 224) ≤ o + 179)); omega)) (fun z a b => ⟨rfl, hf z (by show ¬ (z = o + 1 ∨ (o + 2 ≤ z ∧ z < o + 157) ∨ (o + 157 ≤ z ∧ z ≤ o + 179)); omega)⟩)⟩, q13.mv (fun z a b => ⟨rfl, hf z (by show ¬ (z = o + 1 ∨ (o + 2 ≤ z ∧ z < o + 157) ∨ (o + 157 ≤ z ∧ z ≤ o + 179)); omega)⟩), q14, q15⟩⟩, hr, hC.mv (fun z a b => ⟨rfl, hf z (by show ¬ (z = o + 1 ∨ (o + 2 ≤ z ∧ z < o + 157) ∨ (o + 157 ≤ z ∧ z ≤ o + 179)); omega)⟩) rfl, hH⟩
set_option maxHeartbeats 4000000 in
set_option maxRecDepth 100000 in
theorem g_read (l : Launch) (D : va_G) {sh : s_S} {M : s_M} {sz o : Int} {s : rnT} {hd : Int} {ns : Int} {O : Int → Int} {Q : Int → Int} {Z : Int → Int} {nr : Int} {t : List Int} {WR : Int → Int} {YR : Int → List Int} {vR : List Int} {nc : Int} {m : Int} {WC : Int → Int} {L : Int → Int} (h : cwd sh M sz o s hd ns O Q Z nr t WR YR vR nc m WC L) : Sp l D y_CiteForge_read prog_1_method_4_code 2 (some .int) 9 0 0 [vr o] sh M sz (fun v' sh' M' sz' => ∃ V0 : Int → Int, v' = some (vi (rdl t (o + 157) ((320 : Int) - 0).toNat (((rset (rset (rset (V0) 5 0) 6 0) 7 0), WR, YR, vR, s.1.1), s.2.1.2, (0 : Int))).2.2) ∧ sh' = sh ∧ sz' = sz ∧ cwd sh M' sz o (((rdl t (o + 157) ((320 : Int) - 0).toNat (((rset (rset (rset (V0) 5 0) 6 0) 7 0), WR, YR, vR, s.1.1), s.2.1.2, (0 : Int))).1.2.2.2.2, s.1.2), (s.2.1.1, (rdl t (o + 157) ((320 : Int) - 0).toNat (((rset (rset (rset (V0) 5 0) 6 0) 7 0), WR, YR, vR, s.1.1), s.2.1.2, (0 : Int))).2.1), s.2.2) hd ((rdl t (o + 157) ((320 : Int) - 0).toNat (((rset (rset (rset (V0) 5 0) 6 0) 7 0), WR, YR, vR, s.1.1), s.2.1.2, (0 : Int))).2.2) O Q Z ((rdl t (o + 157) ((320 : Int) - 0).toNat (((rset (rset (rset (V0) 5 0) 6 0) 7 0), WR, YR, vR, s.1.1), s.2.1.2, (0 : Int))).1.1 5) t ((rdl t (o + 157) ((320 : Int) - 0).toNat (((rset (rset (rset (V0) 5 0) 6 0) 7 0), WR, YR, vR, s.1.1), s.2.1.2, (0 : Int))).1.2.1) ((rdl t (o + 157) ((320 : Int) - 0).toNat (((rset (rset (rset (V0) 5 0) 6 0) 7 0), WR, YR, vR, s.1.1), s.2.1.2, (0 : Int))).1.2.2.1) ((rdl t (o + 157) ((320 : Int) - 0).toNat (((rset (rset (rset (V0) 5 0) 6 0) 7 0), WR, YR, vR, s.1.1), s.2.1.2, (0 : Int))).1.2.2.2.1) nc 0 WC L ∧ fr (fun z => o ≤ z ∧ z ≤ o + 246) M M') := by
  have ho := h.sz
  obtain ⟨T1, T2, T3, U1, U2, hw⟩ := h.2.1
  refine Sp.ofGo (own := "CiteForge") (nm := "read") (by decide) rfl rfl (Nat.le_of_ble_eq_true rfl) (lv := [(0, vr o)]) rfl ?_
  intro g X
  refine go_aload_n X d_CiteForge_read_0 rfl rfl ?_
  refine go_get (v := vr (o + 180)) X f_CiteForge_34 h.1.1 rfl d_CiteForge_read_1 (s_vref h.1.2.2.2.2.1 (by omega)) ?_
  refine go_cV (st2 := []) (r := []) X k_CiteForge_83 (y_dropList l D h) h.2.2.2.1.1 rfl rfl (by omega) (Nat.le_of_ble_eq_true rfl) d_CiteForge_read_4 (by omega) (by omega) (fun v' sh' M1 sz' hpp => ?_)
  obtain ⟨e1, e2, e3, wd1, f1⟩ := hpp
  subst e1
  rw [e2, e3]
  clear e2 e3
  show Go g 0 0 sh M1 sz 7 [(0, vr o)] []
  obtain ⟨S1, S2, S3, S4, S5, hv⟩ := wd1.2.1
  have hrd1 := wd1.2.2.1.rdw
  have hsv1 := hv.2.2.2.2.2.2.2.2.2.1
  have hwn1 := hv.1.2
  refine go_aload_n X d_CiteForge_read_7 rfl rfl ?_
  refine go_get (v := vr (o + 157)) X f_CiteForge_27 wd1.1.1 rfl d_CiteForge_read_8 (s_vref wd1.1.2.2.2.1 (by omega)) ?_
  refine go_cV (st2 := []) (r := []) X k_CiteForge_86 (d_Reader_begin l D hrd1 hwn1 hsv1 (by omega)) hrd1.1 rfl rfl (by omega) (Nat.le_of_ble_eq_true rfl) d_CiteForge_read_11 (by omega) (by omega) (fun v' sh' M2 sz' hpp => ?_)
  obtain ⟨e1, e2, e3, hrd2, hwn2, hsv2, f2⟩ := hpp
  subst e1
  rw [e2, e3]
  clear e2 e3
  show Go g 0 0 sh M2 sz 14 [(0, vr o)] []
  have hfr2 : fr (fun z => z = o + 1 ∨ (o + 2 ≤ z ∧ z < o + 157) ∨ (o + 157 ≤ z ∧ z ≤ o + 179)) M1 M2 := fun z hz => by
    have hz1 : ¬ (z = o + 1 ∨ (o + 2 ≤ z ∧ z < o + 157) ∨ (o + 157 ≤ z ∧ z ≤ o + 179)) := hz
    exact f2 z (by show ¬ (z = o + 2 ∨ z = o + 157); omega)
  have hok2 : vok t (rset (rset (rset (M1 (o + 157)) 5 0) 6 0) 7 0) := by
    refine ⟨?_, ?_⟩ <;> simp [rset]
  have hwr2 : 0 ≤ (rset (rset (rset (M1 (o + 157)) 5 0) 6 0) 7 0) 7 ∧ (rset (rset (rset (M1 (o + 157)) 5 0) 6 0) 7 0) 7 ≤ 0 := by simp [rset]
  refine go_iconst (v := 0) X d_CiteForge_read_14 ?_
  refine go_istore_n (lv' := [(1, vi 0), (0, vr o)]) X d_CiteForge_read_15 rfl (by decide) rfl ?_
  have lp : ∀ (fuel : Nat) (i : Int) (q1 : rsS) (Mx : s_M), (0 ≤ i ∧ i ≤ 320) → (rdw sh Mx (o + 157) (o + 2) (o + 1) q1.1.1 t q1.1.2.1 q1.1.2.2.1 q1.1.2.2.2.1) → (Mx (o + 1) = q1.1.2.2.2.2) → (shv sh Mx (o + 2) (o + 1) q1.2.2 q1.2.1) → (vok t q1.1.1) → (0 ≤ q1.1.1 7 ∧ q1.1.1 7 ≤ i) → (fr (fun z => z = o + 1 ∨ (o + 2 ≤ z ∧ z < o + 157) ∨ (o + 157 ≤ z ∧ z ≤ o + 179)) M1 Mx) → (rdl t (o + 157) ((320 : Int) - i).toNat q1 = rdl t (o + 157) ((320 : Int) - 0).toNat (((rset (rset (rset (M1 (o + 157)) 5 0) 6 0) 7 0), WR, YR, vR, s.1.1), s.2.1.2, (0 : Int))) → ((320 : Int) - i).toNat < fuel → Go g 0 0 sh Mx sz 16 [(0, vr o), (1, vi i)] [] := by
    intro fuel
    induction fuel with
    | zero => intro i q1 Mx hi hrd0 hwn0 hsv0 hok0 hwr0 hfr hp hm_lp; exact absurd hm_lp (Nat.not_lt_zero _)
    | succ fuel ih_lp =>
      intro i q1 Mx hi hrd0 hwn0 hsv0 hok0 hwr0 hfr hp hm_lp
      have hcx : cfx sh Mx o := wd1.1.mv ⟨rfl, hfr o (by show ¬ (o = o + 1 ∨ (o + 2 ≤ o ∧ o < o + 157) ∨ (o + 157 ≤ o ∧ o ≤ o + 179)); omega)⟩
      obtain ⟨⟨V1, W1, Y1, v1, N1⟩, E1, n1⟩ := q1
      have hrd0 : rdw sh Mx (o + 157) (o + 2) (o + 1) V1 t W1 Y1 v1 := hrd0
      have hwn0 : Mx (o + 1) = N1 := hwn0
      have hsv0 : shv sh Mx (o + 2) (o + 1) n1 E1 := hsv0
      have hok0 : vok t V1 := hok0
      have hwr0 : 0 ≤ V1 7 ∧ V1 7 ≤ i := hwr0
      have hln := hrd0.2.2.2.2.2.2.2.1.len.1
      refine go_iload_n X d_CiteForge_read_16 rfl rfl ?_
      refine go_sipush (v := 320) X d_CiteForge_read_17 (by decide) ?_
      refine go_icmp_ge (tgt := 56) X d_CiteForge_read_20 rfl (by omega) (by omega) (fun hq1 => ?_) (fun hq1 => ?_)
      · skip
        refine go_aload_n X d_CiteForge_read_56 rfl rfl ?_
        refine go_get (v := vr (o + 2)) X f_CiteForge_18 hcx.1 rfl d_CiteForge_read_57 (s_vref hcx.2.2.1 (by omega)) ?_
        refine go_cVf (st2 := [vi n1]) (r := []) X k_CiteForge_99 (c_Shelf_size l D hsv0) hsv0.1 rfl rfl (by omega) (Nat.le_of_ble_eq_true rfl) d_CiteForge_read_60 (by omega) (by omega) rfl ?_
        refine go_iret X d_CiteForge_read_63 rfl ?_ (by omega) (by omega) ?_
        · rfl
        have hT : rdl t (o + 157) ((320 : Int) - 0).toNat (((rset (rset (rset (M1 (o + 157)) 5 0) 6 0) 7 0), WR, YR, vR, s.1.1), s.2.1.2, (0 : Int)) = ((V1, W1, Y1, v1, N1), E1, n1) := by rw [show ((320 : Int) - i).toNat = 0 by omega] at hp; exact hp.symm
        have hrdY : ∃ V', rdw sh Mx (o + 157) (o + 2) (o + 1) V' t W1 Y1 v1 ∧ V' 5 = V1 5 := ⟨_, hrd0, rfl⟩
        obtain ⟨V', hrdY, hVS⟩ := hrdY
        have hrdW : rdv sh Mx (o + 157) (o + 2) (o + 1) (V1 5) t W1 Y1 v1 := by have z := hrdY.rdv (by rw [hVS]; exact hok0.2); rw [hVS] at z; exact z
        have hfin := wd1.read hrdW hwn0 hsv0 hfr
        refine ⟨M1 (o + 157), ?_⟩
        rw [hT]
        refine ⟨rfl, rfl, rfl, hfin, fun z hz => ?_⟩
        have hz1 : ¬ (o ≤ z ∧ z ≤ o + 246) := hz
        exact (hfr z (by show ¬ (z = o + 1 ∨ (o + 2 ≤ z ∧ z < o + 157) ∨ (o + 157 ≤ z ∧ z ≤ o + 179)); omega)).trans (f1 z hz)
      · skip
        refine go_aload_n X d_CiteForge_read_23 rfl rfl ?_
        refine go_get (v := vr (o + 157)) X f_CiteForge_27 hcx.1 rfl d_CiteForge_read_24 (s_vref hcx.2.2.2.1 (by omega)) ?_
        refine go_cV (st2 := []) (r := []) X k_CiteForge_89 (c_Reader_findItem l D hrd0 hok0.1 (by omega)) hrd0.1 rfl rfl (by omega) (Nat.le_of_ble_eq_true rfl) d_CiteForge_read_27 (by omega) (by omega) (fun v' sh' M3 sz' hpp => ?_)
        obtain ⟨e1, e2, e3, rd2, fr4⟩ := hpp
        subst e1
        rw [e2, e3]
        clear e2 e3
        show Go g 0 0 sh M3 sz 30 [(0, vr o), (1, vi i)] [vi (s_b (if 8 ≤ V1 7 then false else (fit t (V1 6)).1))]
        have fr5 : fr (fun z => z = o + 1 ∨ (o + 2 ≤ z ∧ z < o + 157) ∨ (o + 157 ≤ z ∧ z ≤ o + 179)) M1 M3 := fun z hz => by
          have hz1 : ¬ (z = o + 1 ∨ (o + 2 ≤ z ∧ z < o + 157) ∨ (o + 157 ≤ z ∧ z ≤ o + 179)) := hz
          exact (fr4 z (by show ¬ (z = o + 157); omega)).trans (hfr z hz)
        have hcx6 : cfx sh M3 o := hcx.mv ⟨rfl, fr4 o (by show ¬ (o = o + 157); omega)⟩
        have hwnA : M3 (o + 1) = N1 := (fr4 (o + 1) (by show ¬ (o + 1 = o + 157); omega)).trans hwn0
        have hsvA : shv sh M3 (o + 2) (o + 1) n1 E1 := hsv0.mv (fun z z1 z2 => ⟨rfl, fr4 z (by show ¬ (z = o + 157); omega)⟩) rfl
        refine go_ifb_eq (tgt := 56) X d_CiteForge_read_30 rfl (fun hq7 => ?_) (fun hq7 => ?_)
        · skip
          refine go_aload_n X d_CiteForge_read_56 rfl rfl ?_
          refine go_get (v := vr (o + 2)) X f_CiteForge_18 hcx6.1 rfl d_CiteForge_read_57 (s_vref hcx6.2.2.1 (by omega)) ?_
          refine go_cVf (st2 := [vi n1]) (r := []) X k_CiteForge_99 (c_Shelf_size l D hsvA) hsvA.1 rfl rfl (by omega) (Nat.le_of_ble_eq_true rfl) d_CiteForge_read_60 (by omega) (by omega) rfl ?_
          refine go_iret X d_CiteForge_read_63 rfl ?_ (by omega) (by omega) ?_
          · rfl
          have hT : rdl t (o + 157) ((320 : Int) - 0).toNat (((rset (rset (rset (M1 (o + 157)) 5 0) 6 0) 7 0), WR, YR, vR, s.1.1), s.2.1.2, (0 : Int)) = ((V1, W1, Y1, v1, N1), E1, n1) := by
            rw [show ((320 : Int) - i).toNat = ((320 : Int) - (i + 1)).toNat + 1 by omega] at hp
            exact hp.symm.trans (if_neg (by show ¬ rdb t ((V1, W1, Y1, v1, N1), E1, n1) = true; rw [show rdb t ((V1, W1, Y1, v1, N1), E1, n1) = false from hq7]; decide))
          have hrdY : ∃ V', rdw sh M3 (o + 157) (o + 2) (o + 1) V' t W1 Y1 v1 ∧ V' 5 = V1 5 := ⟨_, rd2, by split <;> simp [rset]⟩
          obtain ⟨V', hrdY, hVS⟩ := hrdY
          have hrdW : rdv sh M3 (o + 157) (o + 2) (o + 1) (V1 5) t W1 Y1 v1 := by have z := hrdY.rdv (by rw [hVS]; exact hok0.2); rw [hVS] at z; exact z
          have hfin := wd1.read hrdW hwnA hsvA fr5
          refine ⟨M1 (o + 157), ?_⟩
          rw [hT]
          refine ⟨rfl, rfl, rfl, hfin, fun z hz => ?_⟩
          have hz1 : ¬ (o ≤ z ∧ z ≤ o + 246) := hz
          exact (fr5 z (by show ¬ (z = o + 1 ∨ (o + 2 ≤ z ∧ z < o + 157) ∨ (o + 157 ≤ z ∧ z ≤ o + 179)); omega)).trans (f1 z hz)
        · skip
          refine go_aload_n X d_CiteForge_read_33 rfl rfl ?_
          refine go_get (v := vr (o + 157)) X f_CiteForge_27 hcx6.1 rfl d_CiteForge_read_34 (s_vref hcx6.2.2.2.1 (by omega)) ?_
          have hb0 : rdb t ((V1, W1, Y1, v1, N1), E1, n1) = true := hq7
          have hw8 : ¬ 8 ≤ V1 7 := fun q => by have z : (if 8 ≤ V1 7 then false else (fit t (V1 6)).1) = true := hq7; rw [if_pos q] at z; exact Bool.noConfusion z
          have hrdB : rdw sh M3 (o + 157) (o + 2) (o + 1) (rset V1 6 (fit t (V1 6)).2) t W1 Y1 v1 := by have z := rd2; rw [if_neg hw8] at z; exact z
          have hokB : vok t (rset V1 6 (fit t (V1 6)).2) := plV_ok hok0 (fit_rng hok0.1)
          have hY : ∀ k : Int, 0 ≤ k → k < 8 → (Y1 k).length ≤ 60 := fun k k0 k1 => (hrdB.2.2.2.2.2.2.2.2.2.2.1 k k0 k1).2.len.1
          have htk := tif_ok (W := W1) (p := o + 157) (v := v1) (WN := N1) (E := E1) (n := n1) hokB hln hY
          refine go_cV (st2 := []) (r := []) X k_CiteForge_93 (c_Reader_takeItem l D hrdB hokB hwnA hsvA (by omega)) hrdB.1 rfl rfl (by omega) (Nat.le_of_ble_eq_true rfl) d_CiteForge_read_37 (by omega) (by omega) (fun v' sh' M11 sz' hpp => ?_)
          obtain ⟨e1, e2, e3, rd8, wn9, sv10, fr12⟩ := hpp
          subst e1
          rw [e2, e3]
          clear e2 e3
          show Go g 0 0 sh M11 sz 40 [(0, vr o), (1, vi i)] [vi (s_b (rdi t (o + 157) ((V1, W1, Y1, v1, N1), E1, n1)).1)]
          have fr13 : fr (fun z => z = o + 1 ∨ (o + 2 ≤ z ∧ z < o + 157) ∨ (o + 157 ≤ z ∧ z ≤ o + 179)) M1 M11 := fun z hz => by
            have hz1 : ¬ (z = o + 1 ∨ (o + 2 ≤ z ∧ z < o + 157) ∨ (o + 157 ≤ z ∧ z ≤ o + 179)) := hz
            exact (fr12 z (by show ¬ ((o + 2 ≤ z ∧ z < o + 2 + 155) ∨ z = o + 1 ∨ (o + 157 ≤ z ∧ z ≤ o + 157 + 22)); omega)).trans (fr5 z hz)
          have hcx14 : cfx sh M11 o := hcx6.mv ⟨rfl, fr12 o (by show ¬ ((o + 2 ≤ o ∧ o < o + 2 + 155) ∨ o = o + 1 ∨ (o + 157 ≤ o ∧ o ≤ o + 157 + 22)); omega)⟩
          have hwrB : (rdi t (o + 157) ((V1, W1, Y1, v1, N1), E1, n1)).2.1.1 7 = V1 7 := htk.2.trans (by simp [rset])
          refine go_ifb_ne (tgt := 50) X d_CiteForge_read_40 rfl (fun hq15 => ?_) (fun hq15 => ?_)
          · skip
            have hp9 := hp
            rw [show ((320 : Int) - i).toNat = ((320 : Int) - (i + 1)).toNat + 1 by omega] at hp9
            have hn : rdl t (o + 157) ((320 : Int) - (i + 1)).toNat (rd1 t (o + 157) ((V1, W1, Y1, v1, N1), E1, n1)) = rdl t (o + 157) ((320 : Int) - 0).toNat (((rset (rset (rset (M1 (o + 157)) 5 0) 6 0) 7 0), WR, YR, vR, s.1.1), s.2.1.2, (0 : Int)) := (show (if rdb t ((V1, W1, Y1, v1, N1), E1, n1) = true then rdl t (o + 157) ((320 : Int) - (i + 1)).toNat (rd1 t (o + 157) ((V1, W1, Y1, v1, N1), E1, n1)) else ((V1, W1, Y1, v1, N1), E1, n1)) = _ from if_pos hb0).symm.trans hp9
            have hr1 : rd1 t (o + 157) ((V1, W1, Y1, v1, N1), E1, n1) = (rdi t (o + 157) ((V1, W1, Y1, v1, N1), E1, n1)).2 := if_pos hq15
            have hok9 : vok t (rd1 t (o + 157) ((V1, W1, Y1, v1, N1), E1, n1)).1.1 := by
              rw [hr1]
              exact htk.1
            have hwr9 : 0 ≤ (rd1 t (o + 157) ((V1, W1, Y1, v1, N1), E1, n1)).1.1 7 ∧ (rd1 t (o + 157) ((V1, W1, Y1, v1, N1), E1, n1)).1.1 7 ≤ i + 1 := by
              rw [hr1]
              show 0 ≤ (rdi t (o + 157) ((V1, W1, Y1, v1, N1), E1, n1)).2.1.1 7 ∧ (rdi t (o + 157) ((V1, W1, Y1, v1, N1), E1, n1)).2.1.1 7 ≤ i + 1
              rw [hwrB]
              omega
            have hrdZ : rdw sh M11 (o + 157) (o + 2) (o + 1) (rd1 t (o + 157) ((V1, W1, Y1, v1, N1), E1, n1)).1.1 t (rd1 t (o + 157) ((V1, W1, Y1, v1, N1), E1, n1)).1.2.1 (rd1 t (o + 157) ((V1, W1, Y1, v1, N1), E1, n1)).1.2.2.1 (rd1 t (o + 157) ((V1, W1, Y1, v1, N1), E1, n1)).1.2.2.2.1 := by rw [hr1]; exact rd8
            have hwnZ : M11 (o + 1) = (rd1 t (o + 157) ((V1, W1, Y1, v1, N1), E1, n1)).1.2.2.2.2 := by rw [hr1]; exact wn9
            have hsvZ : shv sh M11 (o + 2) (o + 1) (rd1 t (o + 157) ((V1, W1, Y1, v1, N1), E1, n1)).2.2 (rd1 t (o + 157) ((V1, W1, Y1, v1, N1), E1, n1)).2.1 := by rw [hr1]; exact sv10
            refine go_iinc (v := 1) (x := i) (lv' := [(1, vi (i + 1)), (0, vr o)]) X d_CiteForge_read_50 rfl (by decide) rfl ?_
            refine go_goto (tgt := 16) X d_CiteForge_read_53 rfl ?_
            refine go_lv (lv' := [(0, vr o), (1, vi (i + 1))]) X [1, 0] rfl ?_
            exact ih_lp (i + 1) (rd1 t (o + 157) ((V1, W1, Y1, v1, N1), E1, n1)) M11 (by omega) hrdZ hwnZ hsvZ hok9 hwr9 fr13 hn (by omega)
          · skip
            refine go_aload_n X d_CiteForge_read_43 rfl rfl ?_
            refine go_get (v := vr (o + 157)) X f_CiteForge_27 hcx14.1 rfl d_CiteForge_read_44 (s_vref hcx14.2.2.2.1 (by omega)) ?_
            refine go_cV (st2 := []) (r := []) X k_CiteForge_96 (c_Reader_noteWrong l D rd8 wn9) rd8.1 rfl rfl (by omega) (Nat.le_of_ble_eq_true rfl) d_CiteForge_read_47 (by omega) (by omega) (fun v' sh' M19 sz' hpp => ?_)
            obtain ⟨e1, e2, e3, rd16, wn17, fr20⟩ := hpp
            subst e1
            rw [e2, e3]
            clear e2 e3
            show Go g 0 0 sh M19 sz 50 [(0, vr o), (1, vi i)] []
            have fr21 : fr (fun z => z = o + 1 ∨ (o + 2 ≤ z ∧ z < o + 157) ∨ (o + 157 ≤ z ∧ z ≤ o + 179)) M1 M19 := fun z hz => by
              have hz1 : ¬ (z = o + 1 ∨ (o + 2 ≤ z ∧ z < o + 157) ∨ (o + 157 ≤ z ∧ z ≤ o + 179)) := hz
              exact (fr20 z (by show ¬ (z = o + 157 ∨ z = o + 1); omega)).trans (fr13 z hz)
            have hcx22 : cfx sh M19 o := hcx14.mv ⟨rfl, fr20 o (by show ¬ (o = o + 157 ∨ o = o + 1); omega)⟩
            have sv18 : shv sh M19 (o + 2) (o + 1) (rdi t (o + 157) ((V1, W1, Y1, v1, N1), E1, n1)).2.2.2 (rdi t (o + 157) ((V1, W1, Y1, v1, N1), E1, n1)).2.2.1 := sv10.mv (fun z z1 z2 => ⟨rfl, fr20 z (by show ¬ (z = o + 157 ∨ z = o + 1); omega)⟩) rfl
            have hp9 := hp
            rw [show ((320 : Int) - i).toNat = ((320 : Int) - (i + 1)).toNat + 1 by omega] at hp9
            have hn : rdl t (o + 157) ((320 : Int) - (i + 1)).toNat (rd1 t (o + 157) ((V1, W1, Y1, v1, N1), E1, n1)) = rdl t (o + 157) ((320 : Int) - 0).toNat (((rset (rset (rset (M1 (o + 157)) 5 0) 6 0) 7 0), WR, YR, vR, s.1.1), s.2.1.2, (0 : Int)) := (show (if rdb t ((V1, W1, Y1, v1, N1), E1, n1) = true then rdl t (o + 157) ((320 : Int) - (i + 1)).toNat (rd1 t (o + 157) ((V1, W1, Y1, v1, N1), E1, n1)) else ((V1, W1, Y1, v1, N1), E1, n1)) = _ from if_pos hb0).symm.trans hp9
            have hr1 : rd1 t (o + 157) ((V1, W1, Y1, v1, N1), E1, n1) = rdn (rdi t (o + 157) ((V1, W1, Y1, v1, N1), E1, n1)).2 := if_neg (by rw [hq15]; decide)
            have hok9 : vok t (rd1 t (o + 157) ((V1, W1, Y1, v1, N1), E1, n1)).1.1 := by
              rw [hr1]
              show vok t (rset (rdi t (o + 157) ((V1, W1, Y1, v1, N1), E1, n1)).2.1.1 7 ((rdi t (o + 157) ((V1, W1, Y1, v1, N1), E1, n1)).2.1.1 7 + 1))
              refine ⟨?_, ?_⟩ <;> simp [rset]
              · exact htk.1.1
              · exact htk.1.2
            have hwr9 : 0 ≤ (rd1 t (o + 157) ((V1, W1, Y1, v1, N1), E1, n1)).1.1 7 ∧ (rd1 t (o + 157) ((V1, W1, Y1, v1, N1), E1, n1)).1.1 7 ≤ i + 1 := by
              rw [hr1]
              show 0 ≤ rset (rdi t (o + 157) ((V1, W1, Y1, v1, N1), E1, n1)).2.1.1 7 ((rdi t (o + 157) ((V1, W1, Y1, v1, N1), E1, n1)).2.1.1 7 + 1) 7 ∧ rset (rdi t (o + 157) ((V1, W1, Y1, v1, N1), E1, n1)).2.1.1 7 ((rdi t (o + 157) ((V1, W1, Y1, v1, N1), E1, n1)).2.1.1 7 + 1) 7 ≤ i + 1
              rw [rset_at, hwrB]
              omega
            have hrdZ : rdw sh M19 (o + 157) (o + 2) (o + 1) (rd1 t (o + 157) ((V1, W1, Y1, v1, N1), E1, n1)).1.1 t (rd1 t (o + 157) ((V1, W1, Y1, v1, N1), E1, n1)).1.2.1 (rd1 t (o + 157) ((V1, W1, Y1, v1, N1), E1, n1)).1.2.2.1 (rd1 t (o + 157) ((V1, W1, Y1, v1, N1), E1, n1)).1.2.2.2.1 := by rw [hr1]; exact rd16
            have hwnZ : M19 (o + 1) = (rd1 t (o + 157) ((V1, W1, Y1, v1, N1), E1, n1)).1.2.2.2.2 := by rw [hr1]; exact wn17
            have hsvZ : shv sh M19 (o + 2) (o + 1) (rd1 t (o + 157) ((V1, W1, Y1, v1, N1), E1, n1)).2.2 (rd1 t (o + 157) ((V1, W1, Y1, v1, N1), E1, n1)).2.1 := by rw [hr1]; exact sv18
            refine go_iinc (v := 1) (x := i) (lv' := [(1, vi (i + 1)), (0, vr o)]) X d_CiteForge_read_50 rfl (by decide) rfl ?_
            refine go_goto (tgt := 16) X d_CiteForge_read_53 rfl ?_
            refine go_lv (lv' := [(0, vr o), (1, vi (i + 1))]) X [1, 0] rfl ?_
            exact ih_lp (i + 1) (rd1 t (o + 157) ((V1, W1, Y1, v1, N1), E1, n1)) M19 (by omega) hrdZ hwnZ hsvZ hok9 hwr9 fr21 hn (by omega)
  refine go_lv (lv' := [(0, vr o), (1, vi 0)]) X [1, 0] rfl ?_
  exact lp _ 0 (((rset (rset (rset (M1 (o + 157)) 5 0) 6 0) 7 0), WR, YR, vR, s.1.1), s.2.1.2, (0 : Int)) M2 (by omega) hrd2 hwn2 hsv2 hok2 hwr2 hfr2 rfl (Nat.lt_succ_self _)
