set_option maxHeartbeats 4000000 in
set_option maxRecDepth 100000 in
theorem c_People_addInitials (l : Launch) (D : va_G) {sh : s_S} {M : s_M} {sz p : Int} {V B N Lw Pb : Int → Int} (h : ppl sh M p V B N Lw Pb) {a : Int} {K : Nat} {t : List Int} (ht : tv sh M a K t) {r : Int} {u : List Int} (hr : tv sh M r 60 u) (hd : p + 4 < a ∧ p + 4 < r) (har : a + 1 < r ∨ r + 1 < a) {b e : Int} (hVb : V 8 = b) (hVe : V 9 = e) (hb : 0 ≤ b ∧ b ≤ 60) (he : 0 ≤ e ∧ e ≤ 60) (hB : bnk B N b e) : Sp l D y_People_addInitials prog_7_method_17_code 5 none 4 0 0 [vr p, vr a, vr r] sh M sz (fun v' sh' M' sz' => v' = none ∧ sh' = sh ∧ sz' = sz ∧ tv sh M' r 60 (ais t B N b e u) ∧ fr (fun z => z = r ∨ z = r + 1) M M') := by
  have hp0 : 0 ≤ p := h.1.2.2.2.2.2.2.2.2.2
  have hwb := h.1.2.2.2.2.2.1
  have hwe := h.1.2.2.2.2.2.2.1
  have hch := ht.rng
  have hln := ht.len
  have hlr := hr.len
  have hb1 : M p 8 = b := (congrFun h.2.1 8).trans hVb
  have he1 : M p 9 = e := (congrFun h.2.1 9).trans hVe
  refine Sp.ofGo (own := "CiteForge$People") (nm := "addInitials") (by decide) rfl rfl (Nat.le_of_ble_eq_true rfl) (lv := [(0, vr p), (1, vr a), (2, vr r)]) rfl ?_
  intro g X
  refine go_aload_n X d_People_addInitials_0 rfl rfl ?_
  refine go_get (v := vi b) X f_People_101 h.1.1 rfl d_People_addInitials_1 (congrArg (s_v .int) hb1) ?_
  refine go_istore_n (lv' := [(3, vi b), (0, vr p), (1, vr a), (2, vr r)]) X d_People_addInitials_4 rfl (by decide) rfl ?_
  have lp : ∀ (fuel : Nat) (i : Int) (u1 : List Int) (Mx : s_M), (b ≤ i) → (i ≤ e ∨ i = b) → (ppl sh Mx p V B N Lw Pb) → (tv sh Mx a K t) → (tv sh Mx r 60 u1) → (fr (fun z => z = r ∨ z = r + 1) M Mx) → (it (ain t B N) (e - i).toNat i u1 = it (ain t B N) (e - b).toNat b u) → (e - i).toNat < fuel → Go g 0 0 sh Mx sz 5 [(0, vr p), (1, vr a), (2, vr r), (3, vi i)] [] := by
    intro fuel
    induction fuel with
    | zero => intro i u1 Mx hi hi2 hpl hta htr hfr hp hm_lp; exact absurd hm_lp (Nat.not_lt_zero _)
    | succ fuel ih_lp =>
      intro i u1 Mx hi hi2 hpl hta htr hfr hp hm_lp
      have hwb1 := hpl.1.2.2.2.2.2.1
      have hwe1 := hpl.1.2.2.2.2.2.2.1
      have hl1 := htr.len
      have he2 : Mx p 9 = e := (congrFun hpl.2.1 9).trans hVe
      refine go_iload_n X d_People_addInitials_5 rfl rfl ?_
      refine go_aload_n X d_People_addInitials_6 rfl rfl ?_
      refine go_get (v := vi e) X f_People_104 h.1.1 rfl d_People_addInitials_7 (congrArg (s_v .int) he2) ?_
      refine go_icmp_ge (tgt := 61) X d_People_addInitials_10 rfl (by omega) (by omega) (fun hq1 => ?_) (fun hq1 => ?_)
      · skip
        refine go_vret X d_People_addInitials_61 rfl (by omega) (by omega) ?_
        have hfin := it_fin (ain t B N) hp (by omega)
        rw [show ais t B N b e u = u1 from hfin]
        exact ⟨rfl, rfl, rfl, htr, hfr⟩
      · skip
        have hbn := hB i (by omega) (by omega)
        refine go_aload_n X d_People_addInitials_13 rfl rfl ?_
        refine go_cVf (st2 := [vi (u1.length : Int)]) (r := []) X k_People_31 (k_Text_size l D htr) hr.1.1 rfl rfl (by omega) (Nat.le_of_ble_eq_true rfl) d_People_addInitials_14 (by omega) (by omega) rfl ?_
        refine go_if_le (tgt := 26) X d_People_addInitials_17 rfl (by omega) (fun hq2 => ?_) (fun hq2 => ?_)
        · skip
          have hsp : spc u1 = u1 := if_neg (by omega)
          have tv3 : tv sh Mx r 60 (spc u1) := by rw [hsp]; exact htr
          have hl2 := tv3.len
          refine go_aload_n X d_People_addInitials_26 rfl rfl ?_
          refine go_aload_n X d_People_addInitials_27 rfl rfl ?_
          refine go_iload_n X d_People_addInitials_28 rfl rfl ?_
          have hplc : ppl sh Mx p V B N Lw Pb := h.mv (fun z z1 z2 => ⟨rfl, hfr z (by show ¬ (z = r ∨ z = r + 1); omega)⟩)
          refine go_cVf (st2 := [vi (iplw t B N i)]) (r := []) X k_People_151 (c_People_initialPlace l D hplc hta (q := i) (by omega) hbn) h.1.1 rfl rfl (by omega) (Nat.le_of_ble_eq_true rfl) d_People_addInitials_29 (by omega) (by omega) rfl ?_
          have hir : iplw t B N i = -1 ∨ (B i ≤ iplw t B N i ∧ iplw t B N i < B i + ((N i - B i).toNat : Int)) := ipl_rng _ _ _ _ (by omega) (by omega)
          refine go_istore (lv' := [(4, vi (iplw t B N i)), (0, vr p), (1, vr a), (2, vr r), (3, vi i)]) X d_People_addInitials_32 (by decide) rfl ?_
          refine go_iload X d_People_addInitials_34 rfl ?_
          refine go_if_lt (tgt := 49) X d_People_addInitials_36 rfl (by omega) (fun hq4 => ?_) (fun hq4 => ?_)
          · skip
            refine go_aload_n X d_People_addInitials_49 rfl rfl ?_
            refine go_bipush (v := 46) X d_People_addInitials_50 (by decide) ?_
            refine go_cV (st2 := []) (r := []) X k_People_143 (k_Text_add l D tv3 (by omega)) hr.1.1 rfl rfl (by omega) (Nat.le_of_ble_eq_true rfl) d_People_addInitials_52 (by omega) (by omega) (fun v sh' M5 sz' hp6 => ?_)
            obtain ⟨e7, e8, e9, tv10, fr11⟩ := hp6
            subst e7
            rw [e8, e9]
            show Go g 0 0 sh M5 sz 55 [(4, vi (iplw t B N i)), (0, vr p), (1, vr a), (2, vr r), (3, vi i)] []
            have e12 : M5 p 2 = p + 1 := (congrFun (fr11 p (by omega)) _).trans hwb1
            have e13 : M5 p 3 = p + 2 := (congrFun (fr11 p (by omega)) _).trans hwe1
            have e14 : M5 p 9 = e := (congrFun (fr11 p (by omega)) _).trans he2
            have tv15 := hta.kept (fr11 a (by omega)) (fr11 (a + 1) (by omega))
            have fr16 : fr (fun z => z = r ∨ z = r + 1) M M5 := fun z hz => by
              have hz1 : ¬ (z = r ∨ z = r + 1) := hz
              exact (fr11 z (by omega)).trans (hfr z hz)
            have rw17 : M5 (p + 1) = B := (fr11 (p + 1) (by omega)).trans hpl.2.2.1
            have rw18 : M5 (p + 2) = N := (fr11 (p + 2) (by omega)).trans hpl.2.2.2.1
            clear fr11 tv3
            have hpl9 : ppl sh M5 p V B N Lw Pb := h.mv (fun z z1 z2 => ⟨rfl, fr16 z (by show ¬ (z = r ∨ z = r + 1); omega)⟩)
            have hs9 : ain t B N i u1 = ta 60 (spc u1) 46 := by unfold ain; rw [if_neg (by omega)]
            have hn := it_nxt (ain t B N) hp (by omega) hs9
            refine go_iinc (v := 1) (x := i) (lv' := [(3, vi (i + 1)), (4, vi (iplw t B N i)), (0, vr p), (1, vr a), (2, vr r)]) X d_People_addInitials_55 rfl (by decide) rfl ?_
            refine go_goto (tgt := 5) X d_People_addInitials_58 rfl ?_
            refine go_lv (lv' := [(0, vr p), (1, vr a), (2, vr r), (3, vi (i + 1))]) X [2, 3, 4, 0] rfl ?_
            exact ih_lp (i + 1) (ta 60 (spc u1) 46) M5 (by omega) (by omega) hpl9 tv15 tv10 fr16 hn (by omega)
          · skip
            refine go_aload_n X d_People_addInitials_39 rfl rfl ?_
            refine go_aload_n X d_People_addInitials_40 rfl rfl ?_
            refine go_iload X d_People_addInitials_41 rfl ?_
            refine go_cVf (st2 := [vi (tg t (iplw t B N i)), vr r]) (r := [vr r]) X k_People_35 (k_Text_at l D hta (by omega)) ht.1.1 rfl rfl (by omega) (Nat.le_of_ble_eq_true rfl) d_People_addInitials_43 (by omega) (by omega) rfl ?_
            have hr9 := hch (iplw t B N i)
            refine go_cV (st2 := []) (r := []) X k_People_143 (k_Text_add l D tv3 (by omega)) hr.1.1 rfl rfl (by omega) (Nat.le_of_ble_eq_true rfl) d_People_addInitials_46 (by omega) (by omega) (fun v sh' M19 sz' hp20 => ?_)
            obtain ⟨e21, e22, e23, tv24, fr25⟩ := hp20
            subst e21
            rw [e22, e23]
            show Go g 0 0 sh M19 sz 49 [(4, vi (iplw t B N i)), (0, vr p), (1, vr a), (2, vr r), (3, vi i)] []
            have e26 : M19 p 2 = p + 1 := (congrFun (fr25 p (by omega)) _).trans hwb1
            have e27 : M19 p 3 = p + 2 := (congrFun (fr25 p (by omega)) _).trans hwe1
            have e28 : M19 p 9 = e := (congrFun (fr25 p (by omega)) _).trans he2
            have tv29 := hta.kept (fr25 a (by omega)) (fr25 (a + 1) (by omega))
            have fr30 : fr (fun z => z = r ∨ z = r + 1) M M19 := fun z hz => by
              have hz1 : ¬ (z = r ∨ z = r + 1) := hz
              exact (fr25 z (by omega)).trans (hfr z hz)
            have rw31 : M19 (p + 1) = B := (fr25 (p + 1) (by omega)).trans hpl.2.2.1
            have rw32 : M19 (p + 2) = N := (fr25 (p + 2) (by omega)).trans hpl.2.2.2.1
            clear fr25 tv3
            refine go_aload_n X d_People_addInitials_49 rfl rfl ?_
            refine go_bipush (v := 46) X d_People_addInitials_50 (by decide) ?_
            refine go_cV (st2 := []) (r := []) X k_People_143 (k_Text_add l D tv24 (by omega)) hr.1.1 rfl rfl (by omega) (Nat.le_of_ble_eq_true rfl) d_People_addInitials_52 (by omega) (by omega) (fun v sh' M33 sz' hp34 => ?_)
            obtain ⟨e35, e36, e37, tv38, fr39⟩ := hp34
            subst e35
            rw [e36, e37]
            show Go g 0 0 sh M33 sz 55 [(4, vi (iplw t B N i)), (0, vr p), (1, vr a), (2, vr r), (3, vi i)] []
            have e40 : M33 p 2 = p + 1 := (congrFun (fr39 p (by omega)) _).trans e26
            have e41 : M33 p 3 = p + 2 := (congrFun (fr39 p (by omega)) _).trans e27
            have e42 : M33 p 9 = e := (congrFun (fr39 p (by omega)) _).trans e28
            have tv43 := tv29.kept (fr39 a (by omega)) (fr39 (a + 1) (by omega))
            have fr44 : fr (fun z => z = r ∨ z = r + 1) M M33 := fun z hz => by
              have hz1 : ¬ (z = r ∨ z = r + 1) := hz
              exact (fr39 z (by omega)).trans (fr30 z hz)
            have rw45 : M33 (p + 1) = B := (fr39 (p + 1) (by omega)).trans rw31
            have rw46 : M33 (p + 2) = N := (fr39 (p + 2) (by omega)).trans rw32
            clear e26 e27 e28 fr30 fr39 rw31 rw32 tv24 tv29
            have hpl9 : ppl sh M33 p V B N Lw Pb := h.mv (fun z z1 z2 => ⟨rfl, fr44 z (by show ¬ (z = r ∨ z = r + 1); omega)⟩)
            have hs9 : ain t B N i u1 = ta 60 (ta 60 (spc u1) (tg t (iplw t B N i))) 46 := by unfold ain; rw [if_pos (by omega)]
            have hn := it_nxt (ain t B N) hp (by omega) hs9
            refine go_iinc (v := 1) (x := i) (lv' := [(3, vi (i + 1)), (4, vi (iplw t B N i)), (0, vr p), (1, vr a), (2, vr r)]) X d_People_addInitials_55 rfl (by decide) rfl ?_
            refine go_goto (tgt := 5) X d_People_addInitials_58 rfl ?_
            refine go_lv (lv' := [(0, vr p), (1, vr a), (2, vr r), (3, vi (i + 1))]) X [2, 3, 4, 0] rfl ?_
            exact ih_lp (i + 1) (ta 60 (ta 60 (spc u1) (tg t (iplw t B N i))) 46) M33 (by omega) (by omega) hpl9 tv43 tv38 fr44 hn (by omega)
        · skip
          refine go_aload_n X d_People_addInitials_20 rfl rfl ?_
          refine go_bipush (v := 32) X d_People_addInitials_21 (by decide) ?_
          refine go_cV (st2 := []) (r := []) X k_People_143 (k_Text_add l D htr (by omega)) hr.1.1 rfl rfl (by omega) (Nat.le_of_ble_eq_true rfl) d_People_addInitials_23 (by omega) (by omega) (fun v sh' M47 sz' hp48 => ?_)
          obtain ⟨e49, e50, e51, tv52, fr53⟩ := hp48
          subst e49
          rw [e50, e51]
          show Go g 0 0 sh M47 sz 26 [(0, vr p), (1, vr a), (2, vr r), (3, vi i)] []
          have e54 : M47 p 2 = p + 1 := (congrFun (fr53 p (by omega)) _).trans hwb1
          have e55 : M47 p 3 = p + 2 := (congrFun (fr53 p (by omega)) _).trans hwe1
          have e56 : M47 p 9 = e := (congrFun (fr53 p (by omega)) _).trans he2
          have tv57 := hta.kept (fr53 a (by omega)) (fr53 (a + 1) (by omega))
          have fr58 : fr (fun z => z = r ∨ z = r + 1) M M47 := fun z hz => by
            have hz1 : ¬ (z = r ∨ z = r + 1) := hz
            exact (fr53 z (by omega)).trans (hfr z hz)
          have rw59 : M47 (p + 1) = B := (fr53 (p + 1) (by omega)).trans hpl.2.2.1
          have rw60 : M47 (p + 2) = N := (fr53 (p + 2) (by omega)).trans hpl.2.2.2.1
          clear fr53
          have hsp : spc u1 = ta 60 u1 32 := if_pos (by omega)
          have tv61 : tv sh M47 r 60 (spc u1) := by rw [hsp]; exact tv52
          have hl2 := tv61.len
          refine go_aload_n X d_People_addInitials_26 rfl rfl ?_
          refine go_aload_n X d_People_addInitials_27 rfl rfl ?_
          refine go_iload_n X d_People_addInitials_28 rfl rfl ?_
          have hplc : ppl sh M47 p V B N Lw Pb := h.mv (fun z z1 z2 => ⟨rfl, fr58 z (by show ¬ (z = r ∨ z = r + 1); omega)⟩)
          refine go_cVf (st2 := [vi (iplw t B N i)]) (r := []) X k_People_151 (c_People_initialPlace l D hplc tv57 (q := i) (by omega) hbn) h.1.1 rfl rfl (by omega) (Nat.le_of_ble_eq_true rfl) d_People_addInitials_29 (by omega) (by omega) rfl ?_
          have hir : iplw t B N i = -1 ∨ (B i ≤ iplw t B N i ∧ iplw t B N i < B i + ((N i - B i).toNat : Int)) := ipl_rng _ _ _ _ (by omega) (by omega)
          refine go_istore (lv' := [(4, vi (iplw t B N i)), (0, vr p), (1, vr a), (2, vr r), (3, vi i)]) X d_People_addInitials_32 (by decide) rfl ?_
          refine go_iload X d_People_addInitials_34 rfl ?_
          refine go_if_lt (tgt := 49) X d_People_addInitials_36 rfl (by omega) (fun hq62 => ?_) (fun hq62 => ?_)
          · skip
            refine go_aload_n X d_People_addInitials_49 rfl rfl ?_
            refine go_bipush (v := 46) X d_People_addInitials_50 (by decide) ?_
            refine go_cV (st2 := []) (r := []) X k_People_143 (k_Text_add l D tv61 (by omega)) hr.1.1 rfl rfl (by omega) (Nat.le_of_ble_eq_true rfl) d_People_addInitials_52 (by omega) (by omega) (fun v sh' M63 sz' hp64 => ?_)
            obtain ⟨e65, e66, e67, tv68, fr69⟩ := hp64
            subst e65
            rw [e66, e67]
            show Go g 0 0 sh M63 sz 55 [(4, vi (iplw t B N i)), (0, vr p), (1, vr a), (2, vr r), (3, vi i)] []
            have e70 : M63 p 2 = p + 1 := (congrFun (fr69 p (by omega)) _).trans e54
            have e71 : M63 p 3 = p + 2 := (congrFun (fr69 p (by omega)) _).trans e55
            have e72 : M63 p 9 = e := (congrFun (fr69 p (by omega)) _).trans e56
            have tv73 := tv57.kept (fr69 a (by omega)) (fr69 (a + 1) (by omega))
            have fr74 : fr (fun z => z = r ∨ z = r + 1) M M63 := fun z hz => by
              have hz1 : ¬ (z = r ∨ z = r + 1) := hz
              exact (fr69 z (by omega)).trans (fr58 z hz)
            have rw75 : M63 (p + 1) = B := (fr69 (p + 1) (by omega)).trans rw59
            have rw76 : M63 (p + 2) = N := (fr69 (p + 2) (by omega)).trans rw60
            clear e54 e55 e56 fr58 fr69 rw59 rw60 tv57 tv61
            have hpl9 : ppl sh M63 p V B N Lw Pb := h.mv (fun z z1 z2 => ⟨rfl, fr74 z (by show ¬ (z = r ∨ z = r + 1); omega)⟩)
            have hs9 : ain t B N i u1 = ta 60 (spc u1) 46 := by unfold ain; rw [if_neg (by omega)]
            have hn := it_nxt (ain t B N) hp (by omega) hs9
            refine go_iinc (v := 1) (x := i) (lv' := [(3, vi (i + 1)), (4, vi (iplw t B N i)), (0, vr p), (1, vr a), (2, vr r)]) X d_People_addInitials_55 rfl (by decide) rfl ?_
            refine go_goto (tgt := 5) X d_People_addInitials_58 rfl ?_
            refine go_lv (lv' := [(0, vr p), (1, vr a), (2, vr r), (3, vi (i + 1))]) X [2, 3, 4, 0] rfl ?_
            exact ih_lp (i + 1) (ta 60 (spc u1) 46) M63 (by omega) (by omega) hpl9 tv73 tv68 fr74 hn (by omega)
          · skip
            refine go_aload_n X d_People_addInitials_39 rfl rfl ?_
            refine go_aload_n X d_People_addInitials_40 rfl rfl ?_
            refine go_iload X d_People_addInitials_41 rfl ?_
            refine go_cVf (st2 := [vi (tg t (iplw t B N i)), vr r]) (r := [vr r]) X k_People_35 (k_Text_at l D tv57 (by omega)) ht.1.1 rfl rfl (by omega) (Nat.le_of_ble_eq_true rfl) d_People_addInitials_43 (by omega) (by omega) rfl ?_
            have hr9 := hch (iplw t B N i)
            refine go_cV (st2 := []) (r := []) X k_People_143 (k_Text_add l D tv61 (by omega)) hr.1.1 rfl rfl (by omega) (Nat.le_of_ble_eq_true rfl) d_People_addInitials_46 (by omega) (by omega) (fun v sh' M77 sz' hp78 => ?_)
            obtain ⟨e79, e80, e81, tv82, fr83⟩ := hp78
            subst e79
            rw [e80, e81]
            show Go g 0 0 sh M77 sz 49 [(4, vi (iplw t B N i)), (0, vr p), (1, vr a), (2, vr r), (3, vi i)] []
            have e84 : M77 p 2 = p + 1 := (congrFun (fr83 p (by omega)) _).trans e54
            have e85 : M77 p 3 = p + 2 := (congrFun (fr83 p (by omega)) _).trans e55
            have e86 : M77 p 9 = e := (congrFun (fr83 p (by omega)) _).trans e56
            have tv87 := tv57.kept (fr83 a (by omega)) (fr83 (a + 1) (by omega))
            have fr88 : fr (fun z => z = r ∨ z = r + 1) M M77 := fun z hz => by
              have hz1 : ¬ (z = r ∨ z = r + 1) := hz
              exact (fr83 z (by omega)).trans (fr58 z hz)
            have rw89 : M77 (p + 1) = B := (fr83 (p + 1) (by omega)).trans rw59
            have rw90 : M77 (p + 2) = N := (fr83 (p + 2) (by omega)).trans rw60
            clear e54 e55 e56 fr58 fr83 rw59 rw60 tv57 tv61
            refine go_aload_n X d_People_addInitials_49 rfl rfl ?_
            refine go_bipush (v := 46) X d_People_addInitials_50 (by decide) ?_
            refine go_cV (st2 := []) (r := []) X k_People_143 (k_Text_add l D tv82 (by omega)) hr.1.1 rfl rfl (by omega) (Nat.le_of_ble_eq_true rfl) d_People_addInitials_52 (by omega) (by omega) (fun v sh' M91 sz' hp92 => ?_)
            obtain ⟨e93, e94, e95, tv96, fr97⟩ := hp92
            subst e93
            rw [e94, e95]
            show Go g 0 0 sh M91 sz 55 [(4, vi (iplw t B N i)), (0, vr p), (1, vr a), (2, vr r), (3, vi i)] []
            have e98 : M91 p 2 = p + 1 := (congrFun (fr97 p (by omega)) _).trans e84
            have e99 : M91 p 3 = p + 2 := (congrFun (fr97 p (by omega)) _).trans e85
            have e100 : M91 p 9 = e := (congrFun (fr97 p (by omega)) _).trans e86
            have tv101 := tv87.kept (fr97 a (by omega)) (fr97 (a + 1) (by omega))
            have fr102 : fr (fun z => z = r ∨ z = r + 1) M M91 := fun z hz => by
              have hz1 : ¬ (z = r ∨ z = r + 1) := hz
              exact (fr97 z (by omega)).trans (fr88 z hz)
            have rw103 : M91 (p + 1) = B := (fr97 (p + 1) (by omega)).trans rw89
            have rw104 : M91 (p + 2) = N := (fr97 (p + 2) (by omega)).trans rw90
            clear e84 e85 e86 fr88 fr97 rw89 rw90 tv82 tv87
            have hpl9 : ppl sh M91 p V B N Lw Pb := h.mv (fun z z1 z2 => ⟨rfl, fr102 z (by show ¬ (z = r ∨ z = r + 1); omega)⟩)
            have hs9 : ain t B N i u1 = ta 60 (ta 60 (spc u1) (tg t (iplw t B N i))) 46 := by unfold ain; rw [if_pos (by omega)]
            have hn := it_nxt (ain t B N) hp (by omega) hs9
            refine go_iinc (v := 1) (x := i) (lv' := [(3, vi (i + 1)), (4, vi (iplw t B N i)), (0, vr p), (1, vr a), (2, vr r)]) X d_People_addInitials_55 rfl (by decide) rfl ?_
            refine go_goto (tgt := 5) X d_People_addInitials_58 rfl ?_
            refine go_lv (lv' := [(0, vr p), (1, vr a), (2, vr r), (3, vi (i + 1))]) X [2, 3, 4, 0] rfl ?_
            exact ih_lp (i + 1) (ta 60 (ta 60 (spc u1) (tg t (iplw t B N i))) 46) M91 (by omega) (by omega) hpl9 tv101 tv96 fr102 hn (by omega)
  refine go_lv (lv' := [(0, vr p), (1, vr a), (2, vr r), (3, vi b)]) X [1, 2, 3, 0] rfl ?_
  exact lp _ b u M (by omega) (by omega) h ht hr (fun z _ => rfl) rfl (Nat.lt_succ_self _)
/-- a name put together in a form -/
def ptg (t : List Int) (B N : Int → Int) (fb fe vb ve lb le jb je f : Int) : List Int :=
  if f = 0 then awd t B N jb je (acm jb je (awd t B N lb le (awd t B N vb ve (awd t B N fb fe []))))
  else if f = 1 then ais t B N fb fe (acm fb fe (awd t B N jb je (acm jb je (awd t B N lb le (awd t B N vb ve [])))))
  else if f = 2 then awd t B N lb le []
  else awd t B N lb le (awd t B N vb ve (ais t B N fb fe []))
set_option maxHeartbeats 4000000 in
set_option maxRecDepth 100000 in
theorem c_People_putTogether (l : Launch) (D : va_G) {sh : s_S} {M : s_M} {sz p : Int} {V B N Lw Pb : Int → Int} (h : ppl sh M p V B N Lw Pb) {a : Int} {K : Nat} {t : List Int} (ht : tv sh M a K t) {r : Int} {u : List Int} (hr : tv sh M r 60 u) (hd : p + 4 < a ∧ p + 4 < r) (har : a + 1 < r ∨ r + 1 < a) {fb fe vb ve lb le jb je : Int} (hfb : V 8 = fb) (hfe : V 9 = fe) (hvb : V 10 = vb) (hve : V 11 = ve) (hlb : V 12 = lb) (hle : V 13 = le) (hjb : V 14 = jb) (hje : V 15 = je) (rfb : 0 ≤ fb ∧ fb ≤ 60) (rfe : 0 ≤ fe ∧ fe ≤ 60) (rvb : 0 ≤ vb ∧ vb ≤ 60) (rve : 0 ≤ ve ∧ ve ≤ 60) (rlb : 0 ≤ lb ∧ lb ≤ 60) (rle : 0 ≤ le ∧ le ≤ 60) (rjb : 0 ≤ jb ∧ jb ≤ 60) (rje : 0 ≤ je ∧ je ≤ 60) (hB : bnk B N 0 60) {f : Int} (hf : 0 ≤ f ∧ f ≤ 3) : Sp l D y_People_putTogether prog_7_method_14_code 4 none 6 0 0 [vr p, vr a, vi f, vr r] sh M sz (fun v' sh' M' sz' => v' = none ∧ sh' = sh ∧ sz' = sz ∧ tv sh M' r 60 (ptg t B N fb fe vb ve lb le jb je f) ∧ fr (fun z => z = r ∨ z = r + 1) M M') := by
  have hp0 : 0 ≤ p := h.1.2.2.2.2.2.2.2.2.2
  refine Sp.ofGo (own := "CiteForge$People") (nm := "putTogether") (by decide) rfl rfl (Nat.le_of_ble_eq_true rfl) (lv := [(0, vr p), (1, vr a), (2, vi f), (3, vr r)]) rfl ?_
  intro g X
  refine go_aload_n X d_People_putTogether_0 rfl rfl ?_
  refine go_cV (st2 := []) (r := []) X k_People_128 (k_Text_reset l D hr) hr.1.1 rfl rfl (by omega) (Nat.le_of_ble_eq_true rfl) d_People_putTogether_1 (by omega) (by omega) (fun v' sh' M1 sz' hpp => ?_)
  obtain ⟨e2, e3, e4, tv5, fr6⟩ := hpp
  subst e2
  rw [e3, e4]
  show Go g 0 0 sh M1 sz 4 [(0, vr p), (1, vr a), (2, vi f), (3, vr r)] []
  have pl7 : ppl sh M1 p V B N Lw Pb := h.mv (fun z z1 z2 => ⟨rfl, fr6 z (by show ¬ (z = r ∨ z = r + 1); omega)⟩)
  have tv8 : tv sh M1 a K t := ht.mv (fun z z1 z2 => ⟨rfl, fr6 z (by show ¬ (z = r ∨ z = r + 1); omega)⟩)
  have fr9 : fr (fun z => z = r ∨ z = r + 1) M M1 := fun z hz => (fr6 z hz)
  refine go_iload_n X d_People_putTogether_4 rfl rfl ?_
  rcases (show (f < 0 ∨ 2 < f) ∨ f = 0 ∨ f = 1 ∨ f = 2 by omega) with ht10 | ht10 | ht10 | ht10
  · skip
    refine go_tabOut (tgt := 195) X d_People_putTogether_5 (by omega) ht10 rfl ?_
    refine go_aload_n X d_People_putTogether_195 rfl rfl ?_
    refine go_aload_n X d_People_putTogether_196 rfl rfl ?_
    refine go_aload_n X d_People_putTogether_197 rfl rfl ?_
    refine go_cV (st2 := []) (r := []) X k_People_139 (c_People_addInitials l D pl7 tv8 tv5 hd har hfb hfe (by omega) (by omega) (fun i i1 i2 => hB i (by omega) (by omega))) h.1.1 rfl rfl (by omega) (Nat.le_of_ble_eq_true rfl) d_People_putTogether_198 (by omega) (by omega) (fun v' sh' M11 sz' hpp => ?_)
    obtain ⟨e12, e13, e14, tv15, fr16⟩ := hpp
    subst e12
    rw [e13, e14]
    show Go g 0 0 sh M11 sz 201 [(0, vr p), (1, vr a), (2, vi f), (3, vr r)] []
    have pl17 : ppl sh M11 p V B N Lw Pb := pl7.mv (fun z z1 z2 => ⟨rfl, fr16 z (by show ¬ (z = r ∨ z = r + 1); omega)⟩)
    have tv18 : tv sh M11 a K t := tv8.mv (fun z z1 z2 => ⟨rfl, fr16 z (by show ¬ (z = r ∨ z = r + 1); omega)⟩)
    have fr19 : fr (fun z => z = r ∨ z = r + 1) M M11 := fun z hz => (fr16 z hz).trans (fr9 z hz)
    refine go_aload_n X d_People_putTogether_201 rfl rfl ?_
    refine go_aload_n X d_People_putTogether_202 rfl rfl ?_
    refine go_aload_n X d_People_putTogether_203 rfl rfl ?_
    refine go_get (v := vi vb) X f_People_107 h.1.1 rfl d_People_putTogether_204 (congrArg (s_v .int) (show M11 p 10 = vb from (congrFun pl17.2.1 10).trans hvb)) ?_
    refine go_aload_n X d_People_putTogether_207 rfl rfl ?_
    refine go_get (v := vi ve) X f_People_113 h.1.1 rfl d_People_putTogether_208 (congrArg (s_v .int) (show M11 p 11 = ve from (congrFun pl17.2.1 11).trans hve)) ?_
    refine go_aload_n X d_People_putTogether_211 rfl rfl ?_
    refine go_cV (st2 := []) (r := []) X k_People_131 (c_People_addWords l D pl17 tv18 tv15 hd har (b := vb) (e := ve) (by omega) (by omega) (fun i i1 i2 => hB i (by omega) (by omega))) h.1.1 rfl rfl (by omega) (Nat.le_of_ble_eq_true rfl) d_People_putTogether_212 (by omega) (by omega) (fun v' sh' M20 sz' hpp => ?_)
    obtain ⟨e21, e22, e23, tv24, fr25⟩ := hpp
    subst e21
    rw [e22, e23]
    show Go g 0 0 sh M20 sz 215 [(0, vr p), (1, vr a), (2, vi f), (3, vr r)] []
    have pl26 : ppl sh M20 p V B N Lw Pb := pl17.mv (fun z z1 z2 => ⟨rfl, fr25 z (by show ¬ (z = r ∨ z = r + 1); omega)⟩)
    have tv27 : tv sh M20 a K t := tv18.mv (fun z z1 z2 => ⟨rfl, fr25 z (by show ¬ (z = r ∨ z = r + 1); omega)⟩)
    have fr28 : fr (fun z => z = r ∨ z = r + 1) M M20 := fun z hz => (fr25 z hz).trans (fr19 z hz)
    refine go_aload_n X d_People_putTogether_215 rfl rfl ?_
    refine go_aload_n X d_People_putTogether_216 rfl rfl ?_
    refine go_aload_n X d_People_putTogether_217 rfl rfl ?_
    refine go_get (v := vi lb) X f_People_116 h.1.1 rfl d_People_putTogether_218 (congrArg (s_v .int) (show M20 p 12 = lb from (congrFun pl26.2.1 12).trans hlb)) ?_
    refine go_aload_n X d_People_putTogether_221 rfl rfl ?_
    refine go_get (v := vi le) X f_People_119 h.1.1 rfl d_People_putTogether_222 (congrArg (s_v .int) (show M20 p 13 = le from (congrFun pl26.2.1 13).trans hle)) ?_
    refine go_aload_n X d_People_putTogether_225 rfl rfl ?_
    refine go_cV (st2 := []) (r := []) X k_People_131 (c_People_addWords l D pl26 tv27 tv24 hd har (b := lb) (e := le) (by omega) (by omega) (fun i i1 i2 => hB i (by omega) (by omega))) h.1.1 rfl rfl (by omega) (Nat.le_of_ble_eq_true rfl) d_People_putTogether_226 (by omega) (by omega) (fun v' sh' M29 sz' hpp => ?_)
    obtain ⟨e30, e31, e32, tv33, fr34⟩ := hpp
    subst e30
    rw [e31, e32]
    show Go g 0 0 sh M29 sz 229 [(0, vr p), (1, vr a), (2, vi f), (3, vr r)] []
    have pl35 : ppl sh M29 p V B N Lw Pb := pl26.mv (fun z z1 z2 => ⟨rfl, fr34 z (by show ¬ (z = r ∨ z = r + 1); omega)⟩)
    have tv36 : tv sh M29 a K t := tv27.mv (fun z z1 z2 => ⟨rfl, fr34 z (by show ¬ (z = r ∨ z = r + 1); omega)⟩)
    have fr37 : fr (fun z => z = r ∨ z = r + 1) M M29 := fun z hz => (fr34 z hz).trans (fr28 z hz)
    refine go_vret X d_People_putTogether_229 rfl (by omega) (by omega) ?_
    have hpt : ptg t B N fb fe vb ve lb le jb je f = awd t B N lb le (awd t B N vb ve (ais t B N fb fe ([]))) := by unfold ptg; rw [if_neg (by omega), if_neg (by omega), if_neg (by omega)]
    rw [hpt]
    exact ⟨rfl, rfl, rfl, tv33, fr37⟩
  · skip
    refine go_tabIn (off := 27) (tgt := 32) X d_People_putTogether_5 (by omega) (by omega) (by omega) (by rw [ht10]; rfl) rfl ?_
    refine go_aload_n X d_People_putTogether_32 rfl rfl ?_
    refine go_aload_n X d_People_putTogether_33 rfl rfl ?_
    refine go_aload_n X d_People_putTogether_34 rfl rfl ?_
    refine go_get (v := vi fb) X f_People_101 h.1.1 rfl d_People_putTogether_35 (congrArg (s_v .int) (show M1 p 8 = fb from (congrFun pl7.2.1 8).trans hfb)) ?_
    refine go_aload_n X d_People_putTogether_38 rfl rfl ?_
    refine go_get (v := vi fe) X f_People_104 h.1.1 rfl d_People_putTogether_39 (congrArg (s_v .int) (show M1 p 9 = fe from (congrFun pl7.2.1 9).trans hfe)) ?_
    refine go_aload_n X d_People_putTogether_42 rfl rfl ?_
    refine go_cV (st2 := []) (r := []) X k_People_131 (c_People_addWords l D pl7 tv8 tv5 hd har (b := fb) (e := fe) (by omega) (by omega) (fun i i1 i2 => hB i (by omega) (by omega))) h.1.1 rfl rfl (by omega) (Nat.le_of_ble_eq_true rfl) d_People_putTogether_43 (by omega) (by omega) (fun v' sh' M38 sz' hpp => ?_)
    obtain ⟨e39, e40, e41, tv42, fr43⟩ := hpp
    subst e39
    rw [e40, e41]
    show Go g 0 0 sh M38 sz 46 [(0, vr p), (1, vr a), (2, vi f), (3, vr r)] []
    have pl44 : ppl sh M38 p V B N Lw Pb := pl7.mv (fun z z1 z2 => ⟨rfl, fr43 z (by show ¬ (z = r ∨ z = r + 1); omega)⟩)
    have tv45 : tv sh M38 a K t := tv8.mv (fun z z1 z2 => ⟨rfl, fr43 z (by show ¬ (z = r ∨ z = r + 1); omega)⟩)
    have fr46 : fr (fun z => z = r ∨ z = r + 1) M M38 := fun z hz => (fr43 z hz).trans (fr9 z hz)
    refine go_aload_n X d_People_putTogether_46 rfl rfl ?_
    refine go_aload_n X d_People_putTogether_47 rfl rfl ?_
    refine go_aload_n X d_People_putTogether_48 rfl rfl ?_
    refine go_get (v := vi vb) X f_People_107 h.1.1 rfl d_People_putTogether_49 (congrArg (s_v .int) (show M38 p 10 = vb from (congrFun pl44.2.1 10).trans hvb)) ?_
    refine go_aload_n X d_People_putTogether_52 rfl rfl ?_
    refine go_get (v := vi ve) X f_People_113 h.1.1 rfl d_People_putTogether_53 (congrArg (s_v .int) (show M38 p 11 = ve from (congrFun pl44.2.1 11).trans hve)) ?_
    refine go_aload_n X d_People_putTogether_56 rfl rfl ?_
    refine go_cV (st2 := []) (r := []) X k_People_131 (c_People_addWords l D pl44 tv45 tv42 hd har (b := vb) (e := ve) (by omega) (by omega) (fun i i1 i2 => hB i (by omega) (by omega))) h.1.1 rfl rfl (by omega) (Nat.le_of_ble_eq_true rfl) d_People_putTogether_57 (by omega) (by omega) (fun v' sh' M47 sz' hpp => ?_)
    obtain ⟨e48, e49, e50, tv51, fr52⟩ := hpp
    subst e48
    rw [e49, e50]
    show Go g 0 0 sh M47 sz 60 [(0, vr p), (1, vr a), (2, vi f), (3, vr r)] []
    have pl53 : ppl sh M47 p V B N Lw Pb := pl44.mv (fun z z1 z2 => ⟨rfl, fr52 z (by show ¬ (z = r ∨ z = r + 1); omega)⟩)
    have tv54 : tv sh M47 a K t := tv45.mv (fun z z1 z2 => ⟨rfl, fr52 z (by show ¬ (z = r ∨ z = r + 1); omega)⟩)
    have fr55 : fr (fun z => z = r ∨ z = r + 1) M M47 := fun z hz => (fr52 z hz).trans (fr46 z hz)
    refine go_aload_n X d_People_putTogether_60 rfl rfl ?_
    refine go_aload_n X d_People_putTogether_61 rfl rfl ?_
    refine go_aload_n X d_People_putTogether_62 rfl rfl ?_
    refine go_get (v := vi lb) X f_People_116 h.1.1 rfl d_People_putTogether_63 (congrArg (s_v .int) (show M47 p 12 = lb from (congrFun pl53.2.1 12).trans hlb)) ?_
    refine go_aload_n X d_People_putTogether_66 rfl rfl ?_
    refine go_get (v := vi le) X f_People_119 h.1.1 rfl d_People_putTogether_67 (congrArg (s_v .int) (show M47 p 13 = le from (congrFun pl53.2.1 13).trans hle)) ?_
    refine go_aload_n X d_People_putTogether_70 rfl rfl ?_
    refine go_cV (st2 := []) (r := []) X k_People_131 (c_People_addWords l D pl53 tv54 tv51 hd har (b := lb) (e := le) (by omega) (by omega) (fun i i1 i2 => hB i (by omega) (by omega))) h.1.1 rfl rfl (by omega) (Nat.le_of_ble_eq_true rfl) d_People_putTogether_71 (by omega) (by omega) (fun v' sh' M56 sz' hpp => ?_)
    obtain ⟨e57, e58, e59, tv60, fr61⟩ := hpp
    subst e57
    rw [e58, e59]
    show Go g 0 0 sh M56 sz 74 [(0, vr p), (1, vr a), (2, vi f), (3, vr r)] []
    have pl62 : ppl sh M56 p V B N Lw Pb := pl53.mv (fun z z1 z2 => ⟨rfl, fr61 z (by show ¬ (z = r ∨ z = r + 1); omega)⟩)
    have tv63 : tv sh M56 a K t := tv54.mv (fun z z1 z2 => ⟨rfl, fr61 z (by show ¬ (z = r ∨ z = r + 1); omega)⟩)
    have fr64 : fr (fun z => z = r ∨ z = r + 1) M M56 := fun z hz => (fr61 z hz).trans (fr55 z hz)
    refine go_aload_n X d_People_putTogether_74 rfl rfl ?_
    refine go_get (v := vi jb) X f_People_122 h.1.1 rfl d_People_putTogether_75 (congrArg (s_v .int) (show M56 p 14 = jb from (congrFun pl62.2.1 14).trans hjb)) ?_
    refine go_aload_n X d_People_putTogether_78 rfl rfl ?_
    refine go_get (v := vi je) X f_People_125 h.1.1 rfl d_People_putTogether_79 (congrArg (s_v .int) (show M56 p 15 = je from (congrFun pl62.2.1 15).trans hje)) ?_
    refine go_aload_n X d_People_putTogether_82 rfl rfl ?_
    refine go_cS (st2 := []) (r := []) X k_People_135 (c_People_addComma l D tv60 (b := jb) (e := je) (by omega) (by omega)) rfl rfl (by omega) (Nat.le_of_ble_eq_true rfl) d_People_putTogether_83 (by omega) (by omega) (fun v' sh' M65 sz' hpp => ?_)
    obtain ⟨e66, e67, e68, tv69, fr70⟩ := hpp
    subst e66
    rw [e67, e68]
    show Go g 0 0 sh M65 sz 86 [(0, vr p), (1, vr a), (2, vi f), (3, vr r)] []
    have pl71 : ppl sh M65 p V B N Lw Pb := pl62.mv (fun z z1 z2 => ⟨rfl, fr70 z (by show ¬ (z = r ∨ z = r + 1); omega)⟩)
    have tv72 : tv sh M65 a K t := tv63.mv (fun z z1 z2 => ⟨rfl, fr70 z (by show ¬ (z = r ∨ z = r + 1); omega)⟩)
    have fr73 : fr (fun z => z = r ∨ z = r + 1) M M65 := fun z hz => (fr70 z hz).trans (fr64 z hz)
    refine go_aload_n X d_People_putTogether_86 rfl rfl ?_
    refine go_aload_n X d_People_putTogether_87 rfl rfl ?_
    refine go_aload_n X d_People_putTogether_88 rfl rfl ?_
    refine go_get (v := vi jb) X f_People_122 h.1.1 rfl d_People_putTogether_89 (congrArg (s_v .int) (show M65 p 14 = jb from (congrFun pl71.2.1 14).trans hjb)) ?_
    refine go_aload_n X d_People_putTogether_92 rfl rfl ?_
    refine go_get (v := vi je) X f_People_125 h.1.1 rfl d_People_putTogether_93 (congrArg (s_v .int) (show M65 p 15 = je from (congrFun pl71.2.1 15).trans hje)) ?_
    refine go_aload_n X d_People_putTogether_96 rfl rfl ?_
    refine go_cV (st2 := []) (r := []) X k_People_131 (c_People_addWords l D pl71 tv72 tv69 hd har (b := jb) (e := je) (by omega) (by omega) (fun i i1 i2 => hB i (by omega) (by omega))) h.1.1 rfl rfl (by omega) (Nat.le_of_ble_eq_true rfl) d_People_putTogether_97 (by omega) (by omega) (fun v' sh' M74 sz' hpp => ?_)
    obtain ⟨e75, e76, e77, tv78, fr79⟩ := hpp
    subst e75
    rw [e76, e77]
    show Go g 0 0 sh M74 sz 100 [(0, vr p), (1, vr a), (2, vi f), (3, vr r)] []
    have pl80 : ppl sh M74 p V B N Lw Pb := pl71.mv (fun z z1 z2 => ⟨rfl, fr79 z (by show ¬ (z = r ∨ z = r + 1); omega)⟩)
    have tv81 : tv sh M74 a K t := tv72.mv (fun z z1 z2 => ⟨rfl, fr79 z (by show ¬ (z = r ∨ z = r + 1); omega)⟩)
    have fr82 : fr (fun z => z = r ∨ z = r + 1) M M74 := fun z hz => (fr79 z hz).trans (fr73 z hz)
    refine go_goto (tgt := 229) X d_People_putTogether_100 rfl ?_
    refine go_vret X d_People_putTogether_229 rfl (by omega) (by omega) ?_
    have hpt : ptg t B N fb fe vb ve lb le jb je f = awd t B N jb je (acm jb je (awd t B N lb le (awd t B N vb ve (awd t B N fb fe ([]))))) := by unfold ptg; rw [if_pos ht10]
    rw [hpt]
    exact ⟨rfl, rfl, rfl, tv78, fr82⟩
  · skip
    refine go_tabIn (off := 98) (tgt := 103) X d_People_putTogether_5 (by omega) (by omega) (by omega) (by rw [ht10]; rfl) rfl ?_
    refine go_aload_n X d_People_putTogether_103 rfl rfl ?_
    refine go_aload_n X d_People_putTogether_104 rfl rfl ?_
    refine go_aload_n X d_People_putTogether_105 rfl rfl ?_
    refine go_get (v := vi vb) X f_People_107 h.1.1 rfl d_People_putTogether_106 (congrArg (s_v .int) (show M1 p 10 = vb from (congrFun pl7.2.1 10).trans hvb)) ?_
    refine go_aload_n X d_People_putTogether_109 rfl rfl ?_
    refine go_get (v := vi ve) X f_People_113 h.1.1 rfl d_People_putTogether_110 (congrArg (s_v .int) (show M1 p 11 = ve from (congrFun pl7.2.1 11).trans hve)) ?_
    refine go_aload_n X d_People_putTogether_113 rfl rfl ?_
    refine go_cV (st2 := []) (r := []) X k_People_131 (c_People_addWords l D pl7 tv8 tv5 hd har (b := vb) (e := ve) (by omega) (by omega) (fun i i1 i2 => hB i (by omega) (by omega))) h.1.1 rfl rfl (by omega) (Nat.le_of_ble_eq_true rfl) d_People_putTogether_114 (by omega) (by omega) (fun v' sh' M83 sz' hpp => ?_)
    obtain ⟨e84, e85, e86, tv87, fr88⟩ := hpp
    subst e84
    rw [e85, e86]
    show Go g 0 0 sh M83 sz 117 [(0, vr p), (1, vr a), (2, vi f), (3, vr r)] []
    have pl89 : ppl sh M83 p V B N Lw Pb := pl7.mv (fun z z1 z2 => ⟨rfl, fr88 z (by show ¬ (z = r ∨ z = r + 1); omega)⟩)
    have tv90 : tv sh M83 a K t := tv8.mv (fun z z1 z2 => ⟨rfl, fr88 z (by show ¬ (z = r ∨ z = r + 1); omega)⟩)
    have fr91 : fr (fun z => z = r ∨ z = r + 1) M M83 := fun z hz => (fr88 z hz).trans (fr9 z hz)
    refine go_aload_n X d_People_putTogether_117 rfl rfl ?_
    refine go_aload_n X d_People_putTogether_118 rfl rfl ?_
    refine go_aload_n X d_People_putTogether_119 rfl rfl ?_
    refine go_get (v := vi lb) X f_People_116 h.1.1 rfl d_People_putTogether_120 (congrArg (s_v .int) (show M83 p 12 = lb from (congrFun pl89.2.1 12).trans hlb)) ?_
    refine go_aload_n X d_People_putTogether_123 rfl rfl ?_
    refine go_get (v := vi le) X f_People_119 h.1.1 rfl d_People_putTogether_124 (congrArg (s_v .int) (show M83 p 13 = le from (congrFun pl89.2.1 13).trans hle)) ?_
    refine go_aload_n X d_People_putTogether_127 rfl rfl ?_
    refine go_cV (st2 := []) (r := []) X k_People_131 (c_People_addWords l D pl89 tv90 tv87 hd har (b := lb) (e := le) (by omega) (by omega) (fun i i1 i2 => hB i (by omega) (by omega))) h.1.1 rfl rfl (by omega) (Nat.le_of_ble_eq_true rfl) d_People_putTogether_128 (by omega) (by omega) (fun v' sh' M92 sz' hpp => ?_)
    obtain ⟨e93, e94, e95, tv96, fr97⟩ := hpp
    subst e93
    rw [e94, e95]
    show Go g 0 0 sh M92 sz 131 [(0, vr p), (1, vr a), (2, vi f), (3, vr r)] []
    have pl98 : ppl sh M92 p V B N Lw Pb := pl89.mv (fun z z1 z2 => ⟨rfl, fr97 z (by show ¬ (z = r ∨ z = r + 1); omega)⟩)
    have tv99 : tv sh M92 a K t := tv90.mv (fun z z1 z2 => ⟨rfl, fr97 z (by show ¬ (z = r ∨ z = r + 1); omega)⟩)
    have fr100 : fr (fun z => z = r ∨ z = r + 1) M M92 := fun z hz => (fr97 z hz).trans (fr91 z hz)
    refine go_aload_n X d_People_putTogether_131 rfl rfl ?_
    refine go_get (v := vi jb) X f_People_122 h.1.1 rfl d_People_putTogether_132 (congrArg (s_v .int) (show M92 p 14 = jb from (congrFun pl98.2.1 14).trans hjb)) ?_
    refine go_aload_n X d_People_putTogether_135 rfl rfl ?_
    refine go_get (v := vi je) X f_People_125 h.1.1 rfl d_People_putTogether_136 (congrArg (s_v .int) (show M92 p 15 = je from (congrFun pl98.2.1 15).trans hje)) ?_
    refine go_aload_n X d_People_putTogether_139 rfl rfl ?_
    refine go_cS (st2 := []) (r := []) X k_People_135 (c_People_addComma l D tv96 (b := jb) (e := je) (by omega) (by omega)) rfl rfl (by omega) (Nat.le_of_ble_eq_true rfl) d_People_putTogether_140 (by omega) (by omega) (fun v' sh' M101 sz' hpp => ?_)
    obtain ⟨e102, e103, e104, tv105, fr106⟩ := hpp
    subst e102
    rw [e103, e104]
    show Go g 0 0 sh M101 sz 143 [(0, vr p), (1, vr a), (2, vi f), (3, vr r)] []
    have pl107 : ppl sh M101 p V B N Lw Pb := pl98.mv (fun z z1 z2 => ⟨rfl, fr106 z (by show ¬ (z = r ∨ z = r + 1); omega)⟩)
    have tv108 : tv sh M101 a K t := tv99.mv (fun z z1 z2 => ⟨rfl, fr106 z (by show ¬ (z = r ∨ z = r + 1); omega)⟩)
    have fr109 : fr (fun z => z = r ∨ z = r + 1) M M101 := fun z hz => (fr106 z hz).trans (fr100 z hz)
    refine go_aload_n X d_People_putTogether_143 rfl rfl ?_
    refine go_aload_n X d_People_putTogether_144 rfl rfl ?_
    refine go_aload_n X d_People_putTogether_145 rfl rfl ?_
    refine go_get (v := vi jb) X f_People_122 h.1.1 rfl d_People_putTogether_146 (congrArg (s_v .int) (show M101 p 14 = jb from (congrFun pl107.2.1 14).trans hjb)) ?_
    refine go_aload_n X d_People_putTogether_149 rfl rfl ?_
    refine go_get (v := vi je) X f_People_125 h.1.1 rfl d_People_putTogether_150 (congrArg (s_v .int) (show M101 p 15 = je from (congrFun pl107.2.1 15).trans hje)) ?_
    refine go_aload_n X d_People_putTogether_153 rfl rfl ?_
    refine go_cV (st2 := []) (r := []) X k_People_131 (c_People_addWords l D pl107 tv108 tv105 hd har (b := jb) (e := je) (by omega) (by omega) (fun i i1 i2 => hB i (by omega) (by omega))) h.1.1 rfl rfl (by omega) (Nat.le_of_ble_eq_true rfl) d_People_putTogether_154 (by omega) (by omega) (fun v' sh' M110 sz' hpp => ?_)
    obtain ⟨e111, e112, e113, tv114, fr115⟩ := hpp
    subst e111
    rw [e112, e113]
    show Go g 0 0 sh M110 sz 157 [(0, vr p), (1, vr a), (2, vi f), (3, vr r)] []
    have pl116 : ppl sh M110 p V B N Lw Pb := pl107.mv (fun z z1 z2 => ⟨rfl, fr115 z (by show ¬ (z = r ∨ z = r + 1); omega)⟩)
    have tv117 : tv sh M110 a K t := tv108.mv (fun z z1 z2 => ⟨rfl, fr115 z (by show ¬ (z = r ∨ z = r + 1); omega)⟩)
    have fr118 : fr (fun z => z = r ∨ z = r + 1) M M110 := fun z hz => (fr115 z hz).trans (fr109 z hz)
    refine go_aload_n X d_People_putTogether_157 rfl rfl ?_
    refine go_get (v := vi fb) X f_People_101 h.1.1 rfl d_People_putTogether_158 (congrArg (s_v .int) (show M110 p 8 = fb from (congrFun pl116.2.1 8).trans hfb)) ?_
    refine go_aload_n X d_People_putTogether_161 rfl rfl ?_
    refine go_get (v := vi fe) X f_People_104 h.1.1 rfl d_People_putTogether_162 (congrArg (s_v .int) (show M110 p 9 = fe from (congrFun pl116.2.1 9).trans hfe)) ?_
    refine go_aload_n X d_People_putTogether_165 rfl rfl ?_
    refine go_cS (st2 := []) (r := []) X k_People_135 (c_People_addComma l D tv114 (b := fb) (e := fe) (by omega) (by omega)) rfl rfl (by omega) (Nat.le_of_ble_eq_true rfl) d_People_putTogether_166 (by omega) (by omega) (fun v' sh' M119 sz' hpp => ?_)
    obtain ⟨e120, e121, e122, tv123, fr124⟩ := hpp
    subst e120
    rw [e121, e122]
    show Go g 0 0 sh M119 sz 169 [(0, vr p), (1, vr a), (2, vi f), (3, vr r)] []
    have pl125 : ppl sh M119 p V B N Lw Pb := pl116.mv (fun z z1 z2 => ⟨rfl, fr124 z (by show ¬ (z = r ∨ z = r + 1); omega)⟩)
    have tv126 : tv sh M119 a K t := tv117.mv (fun z z1 z2 => ⟨rfl, fr124 z (by show ¬ (z = r ∨ z = r + 1); omega)⟩)
    have fr127 : fr (fun z => z = r ∨ z = r + 1) M M119 := fun z hz => (fr124 z hz).trans (fr118 z hz)
    refine go_aload_n X d_People_putTogether_169 rfl rfl ?_
    refine go_aload_n X d_People_putTogether_170 rfl rfl ?_
    refine go_aload_n X d_People_putTogether_171 rfl rfl ?_
    refine go_cV (st2 := []) (r := []) X k_People_139 (c_People_addInitials l D pl125 tv126 tv123 hd har hfb hfe (by omega) (by omega) (fun i i1 i2 => hB i (by omega) (by omega))) h.1.1 rfl rfl (by omega) (Nat.le_of_ble_eq_true rfl) d_People_putTogether_172 (by omega) (by omega) (fun v' sh' M128 sz' hpp => ?_)
    obtain ⟨e129, e130, e131, tv132, fr133⟩ := hpp
    subst e129
    rw [e130, e131]
    show Go g 0 0 sh M128 sz 175 [(0, vr p), (1, vr a), (2, vi f), (3, vr r)] []
    have pl134 : ppl sh M128 p V B N Lw Pb := pl125.mv (fun z z1 z2 => ⟨rfl, fr133 z (by show ¬ (z = r ∨ z = r + 1); omega)⟩)
    have tv135 : tv sh M128 a K t := tv126.mv (fun z z1 z2 => ⟨rfl, fr133 z (by show ¬ (z = r ∨ z = r + 1); omega)⟩)
    have fr136 : fr (fun z => z = r ∨ z = r + 1) M M128 := fun z hz => (fr133 z hz).trans (fr127 z hz)
    refine go_goto (tgt := 229) X d_People_putTogether_175 rfl ?_
    refine go_vret X d_People_putTogether_229 rfl (by omega) (by omega) ?_
    have hpt : ptg t B N fb fe vb ve lb le jb je f = ais t B N fb fe (acm fb fe (awd t B N jb je (acm jb je (awd t B N lb le (awd t B N vb ve ([])))))) := by unfold ptg; rw [if_neg (by omega), if_pos ht10]
    rw [hpt]
    exact ⟨rfl, rfl, rfl, tv132, fr136⟩
  · skip
    refine go_tabIn (off := 173) (tgt := 178) X d_People_putTogether_5 (by omega) (by omega) (by omega) (by rw [ht10]; rfl) rfl ?_
    refine go_aload_n X d_People_putTogether_178 rfl rfl ?_
    refine go_aload_n X d_People_putTogether_179 rfl rfl ?_
    refine go_aload_n X d_People_putTogether_180 rfl rfl ?_
    refine go_get (v := vi lb) X f_People_116 h.1.1 rfl d_People_putTogether_181 (congrArg (s_v .int) (show M1 p 12 = lb from (congrFun pl7.2.1 12).trans hlb)) ?_
    refine go_aload_n X d_People_putTogether_184 rfl rfl ?_
    refine go_get (v := vi le) X f_People_119 h.1.1 rfl d_People_putTogether_185 (congrArg (s_v .int) (show M1 p 13 = le from (congrFun pl7.2.1 13).trans hle)) ?_
    refine go_aload_n X d_People_putTogether_188 rfl rfl ?_
    refine go_cV (st2 := []) (r := []) X k_People_131 (c_People_addWords l D pl7 tv8 tv5 hd har (b := lb) (e := le) (by omega) (by omega) (fun i i1 i2 => hB i (by omega) (by omega))) h.1.1 rfl rfl (by omega) (Nat.le_of_ble_eq_true rfl) d_People_putTogether_189 (by omega) (by omega) (fun v' sh' M137 sz' hpp => ?_)
    obtain ⟨e138, e139, e140, tv141, fr142⟩ := hpp
    subst e138
    rw [e139, e140]
    show Go g 0 0 sh M137 sz 192 [(0, vr p), (1, vr a), (2, vi f), (3, vr r)] []
    have pl143 : ppl sh M137 p V B N Lw Pb := pl7.mv (fun z z1 z2 => ⟨rfl, fr142 z (by show ¬ (z = r ∨ z = r + 1); omega)⟩)
    have tv144 : tv sh M137 a K t := tv8.mv (fun z z1 z2 => ⟨rfl, fr142 z (by show ¬ (z = r ∨ z = r + 1); omega)⟩)
    have fr145 : fr (fun z => z = r ∨ z = r + 1) M M137 := fun z hz => (fr142 z hz).trans (fr9 z hz)
    refine go_goto (tgt := 229) X d_People_putTogether_192 rfl ?_
    refine go_vret X d_People_putTogether_229 rfl (by omega) (by omega) ?_
    have hpt : ptg t B N fb fe vb ve lb le jb je f = awd t B N lb le ([]) := by unfold ptg; rw [if_neg (by omega), if_neg (by omega), if_pos ht10]
    rw [hpt]
    exact ⟨rfl, rfl, rfl, tv141, fr145⟩
