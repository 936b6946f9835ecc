set_option maxHeartbeats 4000000 in
set_option maxRecDepth 100000 in
theorem c_Reader_findString (l : Launch) (D : va_G) {sh : s_S} {M : s_M} {sz p s w : Int} {V : Int → Int} {t : List Int} {W : Int → Int} {Y : Int → List Int} {v : List Int} (h : rdw sh M p s w V t W Y v) (hst : 0 ≤ V 5 ∧ V 5 ≤ 8) {u : Int} (hu : rL u) : Sp l D y_Reader_findString prog_8_method_24_code 4 (some .int) 1 0 0 [vr p, vl u] sh M sz (pF (some (vi (fx W (V 5) u))) sh M sz) := by
  have hp0 := h.2.2.2.2.2.2.1
  have hch := h.2.2.2.2.2.2.2.1.rng
  have hln := h.2.2.2.2.2.2.2.1.len
  refine Sp.ofGo (own := "CiteForge$Reader") (nm := "findString") (by decide) rfl rfl (Nat.le_of_ble_eq_true rfl) (lv := [(0, vr p), (1, vl u)]) rfl ?_
  intro g X
  refine go_iconst (v := 0) X d_Reader_findString_0 ?_
  refine go_istore_n (lv' := [(3, vi 0), (0, vr p), (1, vl u)]) X d_Reader_findString_1 rfl (by decide) rfl ?_
  have loop : ∀ (fuel : Nat) (i : Int), (0 ≤ i) → (i ≤ V 5) → (fi W u (V 5 - i).toNat i = fx W (V 5) u) → (V 5 - i).toNat < fuel → Go g 0 0 sh M sz 2 [(0, vr p), (1, vl u), (3, vi i)] [] := by
    intro fuel
    induction fuel with
    | zero => intro i hi hi2 hp hm_loop; exact absurd hm_loop (Nat.not_lt_zero _)
    | succ fuel ih_loop =>
      intro i hi hi2 hp hm_loop
      refine go_iload_n X d_Reader_findString_2 rfl rfl ?_
      refine go_aload_n X d_Reader_findString_3 rfl rfl ?_
      refine go_get (v := vi (V 5)) X f_Reader_66 h.1 rfl d_Reader_findString_4 (congrArg (s_v .int) (show M p 5 = V 5 from (congrFun h.2.2.2.2.1 5))) ?_
      refine go_icmp_ge (tgt := 29) X d_Reader_findString_7 rfl (by omega) (by omega) (fun hq1 => ?_) (fun hq1 => ?_)
      · skip
        refine go_iconst (v := (-1)) X d_Reader_findString_29 ?_
        refine go_iret X d_Reader_findString_30 rfl ?_ (by omega) (by omega) ?_
        · rfl
        rw [fi_end (by omega)] at hp
        rw [← hp]
        exact ⟨rfl, rfl, rfl, rfl⟩
      · skip
        refine go_aload_n X d_Reader_findString_10 rfl rfl ?_
        refine go_get (v := vr (p + 3)) X f_Reader_31 h.1 rfl d_Reader_findString_11 (s_varr (show M p 3 = p + 3 from (congrFun h.2.2.2.2.1 3).trans (h.2.2.2.2.2.1.2.2.2.1)) (by omega)) ?_
        refine go_iload_n X d_Reader_findString_14 rfl rfl ?_
        refine go_lald X h.2.1 (by omega) (by omega) d_Reader_findString_15 ?_
        refine go_top (v' := vl (W i)) X (by rw [h.2.2.2.2.2.2.2.2.1]) ?_
        have hw0 := h.2.2.2.2.2.2.2.2.2.1 i
        refine go_lload_n X d_Reader_findString_16 rfl rfl ?_
        refine go_lcmp X (by omega) (by omega) d_Reader_findString_17 ?_
        have hc0 := s_cmp_rng (W i) u
        refine go_if_ne (tgt := 23) X d_Reader_findString_18 rfl (by omega) (fun hq2 => ?_) (fun hq2 => ?_)
        · skip
          have hn : fi W u (V 5 - (i + 1)).toNat (i + 1) = fx W (V 5) u := (fi_nxt (by omega) (fun q => hq2 (by rw [q]; unfold s_cmp; rw [if_neg (by omega), if_pos rfl]))).symm.trans hp
          refine go_iinc (v := 1) (x := i) (lv' := [(3, vi (i + 1)), (0, vr p), (1, vl u)]) X d_Reader_findString_23 rfl (by decide) rfl ?_
          refine go_goto (tgt := 2) X d_Reader_findString_26 rfl ?_
          refine go_lv (lv' := [(0, vr p), (1, vl u), (3, vi (i + 1))]) X [1, 2, 0] rfl ?_
          exact ih_loop (i + 1) (by omega) (by omega) hn (by omega)
        · skip
          refine go_iload_n X d_Reader_findString_21 rfl rfl ?_
          refine go_iret X d_Reader_findString_22 rfl ?_ (by omega) (by omega) ?_
          · rfl
          rw [fi_hit (by omega) (s_cmp0 hq2)] at hp
          rw [← hp]
          exact ⟨rfl, rfl, rfl, rfl⟩
  refine go_lv (lv' := [(0, vr p), (1, vl u), (3, vi 0)]) X [1, 2, 0] rfl ?_
  exact loop _ 0 (by omega) (by omega) rfl (Nat.lt_succ_self _)
