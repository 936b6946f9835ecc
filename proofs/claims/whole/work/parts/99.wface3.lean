def ruk (ns : Int) (O Q Z L : Int → Int) (m f y : Int) (s : rnT) : Int := if (0 ≤ f ∧ f < 6) ∧ 0 ≤ y ∧ y ≤ 2 then (if (srn ns O Q Z L m f y s).1 = true then 0 else 2) else 1
set_option maxHeartbeats 4000000 in
set_option maxRecDepth 100000 in
theorem g_run (l : Launch) (hl : l.stackTraces = false) (D : va_G) {sh : s_S} {M : s_M} {sz o : Int} {s : rnT} {hd : Int} {ns : Int} {O : Int → Int} {Q : Int → Int} {Z : Int → Int} {nr : Int} {t : List Int} {WR : Int → Int} {YR : Int → List Int} {vR : List Int} {nc : Int} {m : Int} {WC : Int → Int} {L : Int → Int} (h : cwd sh M sz o s hd ns O Q Z nr t WR YR vR nc m WC L) {f y : Int} (hf : -2147483648 ≤ f ∧ f < 2147483648) (hy : -2147483648 ≤ y ∧ y < 2147483648) (hok : opk O Q Z) (hr : rok (zdn s)) : SpX l D y_CiteForge_run prog_1_method_13_code 3 (some .int) 36 (kc s.2.2.1.1 (srn ns O Q Z L m f y s).2.2.2.1.1 + 1) (91 * kc s.2.2.1.1 (srn ns O Q Z L m f y s).2.2.2.1.1 + 6) [vr o, vi f, vi y] sh M sz (fun v' sh' M' sz' => (ruk ns O Q Z L m f y s) = 0 ∧ v' = some (vi (srn ns O Q Z L m f y s).2.2.2.2.1) ∧ sz' = sz + ((kc s.2.2.1.1 (srn ns O Q Z L m f y s).2.2.2.1.1 : Nat) : Int) ∧ (∀ z, z < sz → sh' z = sh z) ∧ (∃ hd', cwd sh' M' sz' o ((srn ns O Q Z L m f y s).2) hd' ns O Q Z nr t WR YR vR nc m WC L) ∧ fr (fun z => (o ≤ z ∧ z ≤ o + 246) ∨ sz ≤ z) M M') (fun E sh' M' sz' => (E = "java/lang/IllegalArgumentException" ∧ sh' = sh ∧ M' = M ∧ sz' = sz + 1 ∧ (ruk ns O Q Z L m f y s) = 1) ∨ (E = "java/lang/UnsupportedOperationException" ∧ (ruk ns O Q Z L m f y s) = 2 ∧ (∃ zn : Int, sz' = zn + 1 ∧ zn = sz + ((kc s.2.2.1.1 (srn ns O Q Z L m f y s).2.2.2.1.1 : Nat) : Int)) ∧ (∀ z, z < sz → sh' z = sh z) ∧ (∃ hd', cwd sh' M' sz' o ((srn ns O Q Z L m f y s).2) hd' ns O Q Z nr t WR YR vR nc m WC L) ∧ fr (fun z => (o ≤ z ∧ z ≤ o + 246) ∨ sz ≤ z) M M')) := by
  have ho := h.sz
  obtain ⟨T1, T2, T3, U1, U2, hw⟩ := h.2.1
  refine SpX.ofGo hl (own := "CiteForge") (nm := "run") (by decide) rfl rfl (Nat.le_of_ble_eq_true rfl) (lv := [(0, vr o), (1, vi f), (2, vi y)]) rfl ?_
  intro g X XX
  refine go_iload_n X d_CiteForge_run_0 rfl rfl ?_
  refine go_cSf (st2 := [vi (s_b (decide (0 ≤ f ∧ f < 6)))]) (r := []) X k_CiteForge_162 (c_Machine_isFunction l D (by omega)) rfl rfl (by omega) (Nat.le_of_ble_eq_true rfl) d_CiteForge_run_1 (by omega) (by omega) rfl ?_
  refine go_ifb_eq (tgt := 16) X d_CiteForge_run_4 rfl (fun hq1 => ?_) (fun hq1 => ?_)
  · skip
    simp only [decide_eq_true_eq, decide_eq_false_iff_not] at hq1
    refine go_throw X XX x_K_IA d_CiteForge_run_16 d_CiteForge_run_19 d_CiteForge_run_20 d_CiteForge_run_23 (by omega) (by omega) (by omega) ?_
    exact Or.inl ⟨rfl, rfl, rfl, rfl, if_neg (by omega)⟩
  · skip
    simp only [decide_eq_true_eq, decide_eq_false_iff_not] at hq1
    refine go_iload_n X d_CiteForge_run_7 rfl rfl ?_
    refine go_if_lt (tgt := 16) X d_CiteForge_run_8 rfl (by omega) (fun hq2 => ?_) (fun hq2 => ?_)
    · skip
      refine go_throw X XX x_K_IA d_CiteForge_run_16 d_CiteForge_run_19 d_CiteForge_run_20 d_CiteForge_run_23 (by omega) (by omega) (by omega) ?_
      exact Or.inl ⟨rfl, rfl, rfl, rfl, if_neg (by omega)⟩
    · skip
      refine go_iload_n X d_CiteForge_run_11 rfl rfl ?_
      refine go_iconst (v := 2) X d_CiteForge_run_12 ?_
      refine go_icmp_le (tgt := 24) X d_CiteForge_run_13 rfl (by omega) (by omega) (fun hq3 => ?_) (fun hq3 => ?_)
      · skip
        refine go_aload_n X d_CiteForge_run_24 rfl rfl ?_
        refine go_get (v := vr (o + 225)) X f_CiteForge_57 h.1.1 rfl d_CiteForge_run_25 (s_vref h.1.2.2.2.2.2.2.2.1 (by omega)) ?_
        refine go_iload_n X d_CiteForge_run_28 rfl rfl ?_
        refine go_iload_n X d_CiteForge_run_29 rfl rfl ?_
        refine go_cV (st2 := []) (r := []) X k_CiteForge_178 (y_start l D h hok (by omega) (by omega) hr) hw.2.2.1.1 rfl rfl (by omega) (Nat.le_of_ble_eq_true rfl) d_CiteForge_run_30 (by omega) (by omega) (fun v' shn Mn zn hpp => ?_)
        obtain ⟨e1, ez, es, ⟨hd', hw9⟩, ef⟩ := hpp
        subst e1
        show Go g (0 + kc s.2.2.1.1 (srn ns O Q Z L m f y s).2.2.2.1.1) (0 + 91 * kc s.2.2.1.1 (srn ns O Q Z L m f y s).2.2.2.1.1) shn Mn zn 33 [(0, vr o), (1, vi f), (2, vi y)] [vi (s_b (srn ns O Q Z L m f y s).1)]
        obtain ⟨V1, V2, V3, V4, V5, hv⟩ := hw9.2.1
        refine go_ifb_ne (tgt := 44) X d_CiteForge_run_33 rfl (fun hq4 => ?_) (fun hq4 => ?_)
        · skip
          refine go_aload_n X d_CiteForge_run_44 rfl rfl ?_
          refine go_get (v := vr (o + 225)) X f_CiteForge_57 hw9.1.1 rfl d_CiteForge_run_45 (s_vref hw9.1.2.2.2.2.2.2.2.1 (by omega)) ?_
          refine go_cVf (st2 := [vi (srn ns O Q Z L m f y s).2.2.2.2.1]) (r := []) X k_CiteForge_185 (c_Machine_operationsDone l D hv.2.2.1 hv.2.2.2.2.2.2.2.2.1.2) hv.2.2.1.1 rfl rfl (by omega) (Nat.le_of_ble_eq_true rfl) d_CiteForge_run_48 (by omega) (by omega) rfl ?_
          refine go_iret X d_CiteForge_run_51 rfl ?_ (by omega) (by omega) ?_
          · rfl
          exact ⟨(if_pos (by omega)).trans (if_pos hq4), rfl, ez, es, ⟨hd', hw9⟩, ef⟩
        · skip
          refine go_throw X XX x_K_UO d_CiteForge_run_36 d_CiteForge_run_39 d_CiteForge_run_40 d_CiteForge_run_43 (by omega) (by omega) (by omega) ?_
          exact Or.inr ⟨rfl, (if_pos (by omega)).trans (if_neg (by rw [hq4]; decide)), ⟨zn, by omega, ez⟩, es, ⟨hd', hw9.mv (by omega) (fun z a b => ⟨rfl, rfl⟩)⟩, ef⟩
      · skip
        refine go_throw X XX x_K_IA d_CiteForge_run_16 d_CiteForge_run_19 d_CiteForge_run_20 d_CiteForge_run_23 (by omega) (by omega) (by omega) ?_
        exact Or.inl ⟨rfl, rfl, rfl, rfl, if_neg (by omega)⟩
theorem rdv.rdw {sh : s_S} {M : s_M} {p s w n : Int} {t : List Int} {W : Int → Int} {Y : Int → List Int} {v : List Int} (h : rdv sh M p s w n t W Y v) : rdw sh M p s w (M p) t W Y v := by
  obtain ⟨q1, q2, q3, q4, q5, q6, q7, q8, q9, q10, q11, q12, q13, q14, q15, q16, q17, q18, q19, q20, q21⟩ := h
  exact ⟨q1, q2, q3, q4, rfl, ⟨q5, q6, q7, q8, q9, q10⟩, ⟨q13, q14, q15, q16⟩, q17, q18, q19, q20, q21⟩
theorem rdw.rdv {sh : s_S} {M : s_M} {p s w : Int} {V : Int → Int} {t : List Int} {W : Int → Int} {Y : Int → List Int} {v : List Int} (h : rdw sh M p s w V t W Y v) (hn : 0 ≤ V 5 ∧ V 5 ≤ 8) : rdv sh M p s w (V 5) t W Y v := by
  obtain ⟨q1, q2, q3, q4, q5, q6, q7, q8, q9, q10, q11, q12⟩ := h
  obtain ⟨f1, f2, f3, f4, f5, f6⟩ := q6
  exact ⟨q1, q2, q3, q4, (congrFun q5 0).trans f1, (congrFun q5 1).trans f2, (congrFun q5 2).trans f3, (congrFun q5 3).trans f4, (congrFun q5 4).trans f5, (congrFun q5 11).trans f6, congrFun q5 5, hn, q7.1, q7.2.1, q7.2.2.1, q7.2.2.2, q8, q9, q10, q11, q12⟩
/-- the reader's state in a reading: numbers, words, texts, value, warnings; the shelf -/
abbrev rsS : Type := rsT × (Int → sen) × Int
def rd1 (t : List Int) (p : Int) (q : rsS) : rsS :=
  (if (tif t q.1.2.1 q.1.2.2.1 p q.1.2.2.2.1 (rset q.1.1 6 (fit t (q.1.1 6)).2) q.1.2.2.2.2 q.2.1 q.2.2).1 = true then (tif t q.1.2.1 q.1.2.2.1 p q.1.2.2.2.1 (rset q.1.1 6 (fit t (q.1.1 6)).2) q.1.2.2.2.2 q.2.1 q.2.2).2
   else (((rset (tif t q.1.2.1 q.1.2.2.1 p q.1.2.2.2.1 (rset q.1.1 6 (fit t (q.1.1 6)).2) q.1.2.2.2.2 q.2.1 q.2.2).2.1.1 7 ((tif t q.1.2.1 q.1.2.2.1 p q.1.2.2.2.1 (rset q.1.1 6 (fit t (q.1.1 6)).2) q.1.2.2.2.2 q.2.1 q.2.2).2.1.1 7 + 1)), (tif t q.1.2.1 q.1.2.2.1 p q.1.2.2.2.1 (rset q.1.1 6 (fit t (q.1.1 6)).2) q.1.2.2.2.2 q.2.1 q.2.2).2.1.2.1, (tif t q.1.2.1 q.1.2.2.1 p q.1.2.2.2.1 (rset q.1.1 6 (fit t (q.1.1 6)).2) q.1.2.2.2.2 q.2.1 q.2.2).2.1.2.2.1, (tif t q.1.2.1 q.1.2.2.1 p q.1.2.2.2.1 (rset q.1.1 6 (fit t (q.1.1 6)).2) q.1.2.2.2.2 q.2.1 q.2.2).2.1.2.2.2.1, inc (tif t q.1.2.1 q.1.2.2.1 p q.1.2.2.2.1 (rset q.1.1 6 (fit t (q.1.1 6)).2) q.1.2.2.2.2 q.2.1 q.2.2).2.1.2.2.2.2 1), (tif t q.1.2.1 q.1.2.2.1 p q.1.2.2.2.1 (rset q.1.1 6 (fit t (q.1.1 6)).2) q.1.2.2.2.2 q.2.1 q.2.2).2.2))
/-- is there an item to read on at -/
def rdb (t : List Int) (q : rsS) : Bool := if 8 ≤ q.1.1 7 then false else (fit t (q.1.1 6)).1
def rdl (t : List Int) (p : Int) : Nat → rsS → rsS
  | 0, q => q
  | k + 1, q => if rdb t q = true then rdl t p k (rd1 t p q) else q
