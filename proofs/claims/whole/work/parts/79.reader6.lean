abbrev vst : Type := List Int × (Int → Int)
def aps (u : List Int) (i : Int) (s : vst) : vst := (avv (tg u i) s.1 (s.2 12), avV (tg u i) s.1 s.2)
/-- the piece u, from b to e, is added to the value -/
def apc (u : List Int) (b e : Int) (s : vst) : vst := it (aps u) (e - b).toNat b s
theorem avV_o {c : Int} {v : List Int} {V : Int → Int} {j : Int} (h1 : j ≠ 12) (h2 : j ≠ 13) : avV c v V j = V j := by
  unfold avV
  split
  · exact if_neg h1
  · exact (if_neg h2).trans (if_neg h1)
theorem avV_b {c : Int} {v : List Int} {V : Int → Int} (h : 0 ≤ V 13 ∧ V 13 ≤ 1) : (0 ≤ avV c v V 12 ∧ avV c v V 12 ≤ 1) ∧ 0 ≤ avV c v V 13 ∧ avV c v V 13 ≤ 1 := by
  unfold avV
  split
  · rw [show rset V 12 1 12 = 1 from if_pos rfl, show rset V 12 1 13 = V 13 from if_neg (by decide)]
    omega
  · rw [show rset (rset V 12 0) 13 (if V 13 ≠ 0 ∨ 60 ≤ (av1 v (V 12)).length then 1 else 0) 12 = 0 from (if_neg (by decide)).trans (if_pos rfl), show rset (rset V 12 0) 13 (if V 13 ≠ 0 ∨ 60 ≤ (av1 v (V 12)).length then 1 else 0) 13 = (if V 13 ≠ 0 ∨ 60 ≤ (av1 v (V 12)).length then 1 else 0) from if_pos rfl]
    split <;> omega
set_option maxHeartbeats 4000000 in
set_option maxRecDepth 100000 in
theorem c_Reader_addPiece (l : Launch) (D : va_G) {sh : s_S} {M : s_M} {sz p s w : Int} {V : Int → Int} {t : List Int} {W : Int → Int} {Y : Int → List Int} {v : List Int} (h : rdw sh M p s w V t W Y v) {g_ b e : Int} {Kg : Nat} {u : List Int} (hg : V 8 = g_) (hpb : V 9 = b) (hpe : V 10 = e) (hu : tv sh M g_ Kg u) (hgr : p < g_ ∧ g_ + 1 < p + 21) (rb : 0 ≤ b ∧ b ≤ 1000) (re : 0 ≤ e ∧ e ≤ 1000) (hbw : 0 ≤ V 12 ∧ V 12 ≤ 1) (hvc : 0 ≤ V 13 ∧ V 13 ≤ 1) : Sp l D y_Reader_addPiece prog_8_method_22_code 2 none 4 0 0 [vr p] sh M sz (fun v' sh' M' sz' => v' = none ∧ sh' = sh ∧ sz' = sz ∧ rdw sh M' p s w (apc u b e (v, V)).2 t W Y (apc u b e (v, V)).1 ∧ fr (fun z => z = p ∨ z = p + 21 ∨ z = p + 22) M M') := by
  have hp0 := h.2.2.2.2.2.2.1
  have hch := h.2.2.2.2.2.2.2.1.rng
  have hln := h.2.2.2.2.2.2.2.1.len
  refine Sp.ofGo (own := "CiteForge$Reader") (nm := "addPiece") (by decide) rfl rfl (Nat.le_of_ble_eq_true rfl) (lv := [(0, vr p)]) rfl ?_
  intro g X
  refine go_aload_n X d_Reader_addPiece_0 rfl rfl ?_
  refine go_get (v := vi b) X f_Reader_170 h.1 rfl d_Reader_addPiece_1 (congrArg (s_v .int) (show M p 9 = b from (congrFun h.2.2.2.2.1 9).trans hpb)) ?_
  refine go_istore_n (lv' := [(1, vi b), (0, vr p)]) X d_Reader_addPiece_4 rfl (by decide) rfl ?_
  have lp : ∀ (fuel : Nat) (i : Int) (v1 : List Int) (V1 : Int → Int) (Mx : s_M), (b ≤ i) → (i ≤ e ∨ i = b) → (rdw sh Mx p s w V1 t W Y v1) → (∀ j : Int, j ≠ 12 → j ≠ 13 → V1 j = V j) → (0 ≤ V1 12 ∧ V1 12 ≤ 1) → (0 ≤ V1 13 ∧ V1 13 ≤ 1) → (tv sh Mx g_ Kg u) → (fr (fun z => z = p ∨ z = p + 21 ∨ z = p + 22) M Mx) → (it (aps u) (e - i).toNat i (v1, V1) = apc u b e (v, V)) → (e - i).toNat < fuel → Go g 0 0 sh Mx sz 5 [(0, vr p), (1, vi i)] [] := by
    intro fuel
    induction fuel with
    | zero => intro i v1 V1 Mx hi hi2 hrd hV hb1 hc1 htg hfr hp hm_lp; exact absurd hm_lp (Nat.not_lt_zero _)
    | succ fuel ih_lp =>
      intro i v1 V1 Mx hi hi2 hrd hV hb1 hc1 htg hfr hp hm_lp
      refine go_iload_n X d_Reader_addPiece_5 rfl rfl ?_
      refine go_aload_n X d_Reader_addPiece_6 rfl rfl ?_
      refine go_get (v := vi e) X f_Reader_167 hrd.1 rfl d_Reader_addPiece_7 (congrArg (s_v .int) (show Mx p 10 = e from (congrFun hrd.2.2.2.2.1 10).trans ((hV 10 (by decide) (by decide)).trans hpe))) ?_
      refine go_icmp_ge (tgt := 31) X d_Reader_addPiece_10 rfl (by omega) (by omega) (fun hq1 => ?_) (fun hq1 => ?_)
      · skip
        refine go_vret X d_Reader_addPiece_31 rfl (by omega) (by omega) ?_
        have hfin : apc u b e (v, V) = (v1, V1) := it_fin (aps u) hp (by omega)
        rw [hfin]
        exact ⟨rfl, rfl, rfl, hrd, hfr⟩
      · skip
        refine go_aload_n X d_Reader_addPiece_13 rfl rfl ?_
        refine go_aload_n X d_Reader_addPiece_14 rfl rfl ?_
        refine go_get (v := vr g_) X f_Reader_28 hrd.1 rfl d_Reader_addPiece_15 (s_vref (show Mx p 8 = g_ from (congrFun hrd.2.2.2.2.1 8).trans ((hV 8 (by decide) (by decide)).trans hg)) (by omega)) ?_
        refine go_iload_n X d_Reader_addPiece_18 rfl rfl ?_
        refine go_cVf (st2 := [vi (tg u i), vr p]) (r := [vr p]) X k_Reader_76 (k_Text_at l D htg (by omega)) htg.1.1 rfl rfl (by omega) (Nat.le_of_ble_eq_true rfl) d_Reader_addPiece_19 (by omega) (by omega) rfl ?_
        have hr9 := htg.rng i
        refine go_cV (st2 := []) (r := []) X k_Reader_183 (c_Reader_addToValue l D hrd (c := tg u i) (by omega) hb1 hc1) hrd.1 rfl rfl (by omega) (Nat.le_of_ble_eq_true rfl) d_Reader_addPiece_22 (by omega) (by omega) (fun v' sh' M2 sz' hpp => ?_)
        obtain ⟨e3, e4, e5, rd6, fr7⟩ := hpp
        subst e3
        rw [e4, e5]
        show Go g 0 0 sh M2 sz 25 [(0, vr p), (1, vi i)] []
        have fr8 : fr (fun z => z = p ∨ z = p + 21 ∨ z = p + 22) M M2 := fun z hz => (fr7 z hz).trans (hfr z hz)
        have htg9 : tv sh M2 g_ Kg u := htg.mv (fun z z1 z2 => ⟨rfl, fr7 z (by show ¬ (z = p ∨ z = p + 21 ∨ z = p + 22); omega)⟩)
        have hV9 : ∀ j : Int, j ≠ 12 → j ≠ 13 → avV (tg u i) v1 V1 j = V j := fun j q1 q2 => (avV_o q1 q2).trans (hV j q1 q2)
        have hb9 := avV_b (c := tg u i) (v := v1) hc1
        have hn := it_nxt (aps u) (s' := (avv (tg u i) v1 (V1 12), avV (tg u i) v1 V1)) hp (by omega) rfl
        refine go_iinc (v := 1) (x := i) (lv' := [(1, vi (i + 1)), (0, vr p)]) X d_Reader_addPiece_25 rfl (by decide) rfl ?_
        refine go_goto (tgt := 5) X d_Reader_addPiece_28 rfl ?_
        refine go_lv (lv' := [(0, vr p), (1, vi (i + 1))]) X [1, 0] rfl ?_
        exact ih_lp (i + 1) _ _ M2 (by omega) (by omega) rd6 hV9 hb9.1 hb9.2 htg9 fr8 hn (by omega)
  refine go_lv (lv' := [(0, vr p), (1, vi b)]) X [1, 0] rfl ?_
  exact lp _ b v V M (by omega) (by omega) h (fun j _ _ => rfl) hbw hvc hu (fun z _ => rfl) rfl (Nat.lt_succ_self _)
