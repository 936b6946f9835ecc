/-- a word is added to the words at hand -/
def adV (b : Int) (V : Int → Int) : Int → Int := if 0 ≤ b ∧ V 5 < 60 then inc V 5 else V
def adB (b : Int) (V B : Int → Int) : Int → Int := if 0 ≤ b ∧ V 5 < 60 then rset B (V 5) b else B
def adN (b e : Int) (V N : Int → Int) : Int → Int := if 0 ≤ b ∧ V 5 < 60 then rset N (V 5) e else N
abbrev dst : Type := Int × Int × (Int → Int) × (Int → Int) × (Int → Int) × (Int → Int)
def dvp (c : Int) (V B N Pb : Int → Int) : (Int → Int) × (Int → Int) × (Int → Int) × (Int → Int) := if c = 44 ∧ V 7 < 3 then (inc V 7, B, N, rset Pb (V 7) (V 5)) else (V, B, N, Pb)
/-- dividing a name: where the word at hand begins, the level, the numbers -/
def dvs (t : List Int) (i : Int) (s : dst) : dst := if 0 < s.2.1 ∨ isdiv (tg t i) = false then (if s.1 < 0 then i else s.1, p_lev s.2.1 (tg t i), s.2.2) else (-1, s.2.1, dvp (tg t i) (adV s.1 s.2.2.1) (adB s.1 s.2.2.1 s.2.2.2.1) (adN s.1 i s.2.2.1 s.2.2.2.2.1) s.2.2.2.2.2)
def dv0 (V : Int → Int) : Int → Int := rset (rset V 5 0) 7 1
def dvl (t : List Int) (V B N Pb : Int → Int) (b e : Int) : dst := it (dvs t) (e - b).toNat b (-1, 0, dv0 V, B, N, Pb)
theorem adV_f {b : Int} {V : Int → Int} (h : 0 ≤ V 5 ∧ V 5 ≤ 60) : (0 ≤ adV b V 5 ∧ adV b V 5 ≤ 60) ∧ adV b V 7 = V 7 ∧ adV b V 1 = V 1 := by
  unfold adV
  split
  · refine ⟨?_, if_neg (by decide), if_neg (by decide)⟩
    rw [show inc V 5 5 = V 5 + 1 from if_pos rfl]
    omega
  · exact ⟨h, rfl, rfl⟩
set_option maxHeartbeats 4000000 in
set_option maxRecDepth 100000 in
theorem c_People_divide (l : Launch) (D : va_G) {sh : s_S} {M : s_M} {sz p : Int} {V B N Lw Pb : Int → Int} (h : ppl sh M p V B N Lw Pb) {a : Int} {K : Nat} {t : List Int} (ht : tv sh M a K t) {b0 e0 : Int} (hVb : V 0 = b0) (hVe : V 1 = e0) (rb : 0 ≤ b0 ∧ b0 ≤ 1000) (re : 0 ≤ e0 ∧ e0 ≤ 1000) (hd : p + 4 < a) : Sp l D y_People_divide prog_7_method_6_code 6 none 3 0 0 [vr p, vr a] sh M sz (fun v' sh' M' sz' => v' = none ∧ sh' = sh ∧ sz' = sz ∧ ppl sh M' p (adV (dvl t V B N Pb b0 e0).1 (dvl t V B N Pb b0 e0).2.2.1) (adB (dvl t V B N Pb b0 e0).1 (dvl t V B N Pb b0 e0).2.2.1 (dvl t V B N Pb b0 e0).2.2.2.1) (adN (dvl t V B N Pb b0 e0).1 e0 (dvl t V B N Pb b0 e0).2.2.1 (dvl t V B N Pb b0 e0).2.2.2.2.1) Lw (dvl t V B N Pb b0 e0).2.2.2.2.2 ∧ fr (fun z => p ≤ z ∧ z ≤ p + 4) M M') := by
  have hp0 : 0 ≤ p := h.1.2.2.2.2.2.2.2.2.2
  have hch := ht.rng
  have hln := ht.len
  refine Sp.ofGo (own := "CiteForge$People") (nm := "divide") (by decide) rfl rfl (Nat.le_of_ble_eq_true rfl) (lv := [(0, vr p), (1, vr a)]) rfl ?_
  intro g X
  refine go_aload_n X d_People_divide_0 rfl rfl ?_
  refine go_iconst (v := 0) X d_People_divide_1 ?_
  refine go_put (x := 0) (v := vi 0) X f_People_62 h.1.1 rfl d_People_divide_2 rfl rfl rfl ?_
  generalize hM2 : m_s M p 5 0 = M1
  have pe10 : pev sh M1 p := by rw [← hM2]; exact h.1.put (by decide)
  have rw3 : M1 p = rset V 5 0 := by rw [← hM2]; exact row_set h.2.1
  have rw4 : M1 (p + 1) = B := by rw [← hM2]; exact (m_s_a (of_ne0 (by decide))).trans h.2.2.1
  have rw5 : M1 (p + 2) = N := by rw [← hM2]; exact (m_s_a (of_ne0 (by decide))).trans h.2.2.2.1
  have rw6 : M1 (p + 3) = Lw := by rw [← hM2]; exact (m_s_a (of_ne0 (by decide))).trans h.2.2.2.2.1
  have rw7 : M1 (p + 4) = Pb := by rw [← hM2]; exact (m_s_a (of_ne0 (by decide))).trans h.2.2.2.2.2
  have pd8 : tv sh M1 a K t := by rw [← hM2]; exact ht.mv (as_set (by omega))
  have fr9 : fr (fun z => p ≤ z ∧ z ≤ p + 4) M M1 := fun z hz => by
    have hz1 : ¬ (p ≤ z ∧ z ≤ p + 4) := hz
    rw [← hM2]; exact (m_s_a (by omega))
  clear hM2
  refine go_aload_n X d_People_divide_5 rfl rfl ?_
  refine go_iconst (v := 1) X d_People_divide_6 ?_
  refine go_put (x := 1) (v := vi 1) X f_People_72 h.1.1 rfl d_People_divide_7 rfl rfl rfl ?_
  generalize hM12 : m_s M1 p 7 1 = M11
  have pe20 : pev sh M11 p := by rw [← hM12]; exact pe10.put (by decide)
  have rw13 : M11 p = rset (rset V 5 0) 7 1 := by rw [← hM12]; exact row_set rw3
  have rw14 : M11 (p + 1) = B := by rw [← hM12]; exact (m_s_a (of_ne0 (by decide))).trans rw4
  have rw15 : M11 (p + 2) = N := by rw [← hM12]; exact (m_s_a (of_ne0 (by decide))).trans rw5
  have rw16 : M11 (p + 3) = Lw := by rw [← hM12]; exact (m_s_a (of_ne0 (by decide))).trans rw6
  have rw17 : M11 (p + 4) = Pb := by rw [← hM12]; exact (m_s_a (of_ne0 (by decide))).trans rw7
  have pd18 : tv sh M11 a K t := by rw [← hM12]; exact pd8.mv (as_set (by omega))
  have fr19 : fr (fun z => p ≤ z ∧ z ≤ p + 4) M M11 := fun z hz => by
    have hz1 : ¬ (p ≤ z ∧ z ≤ p + 4) := hz
    rw [← hM12]; exact (m_s_a (by omega)).trans (fr9 z hz)
  clear fr9 pd8 rw3 rw4 rw5 rw6 rw7 hM12
  refine go_iconst (v := (-1)) X d_People_divide_10 ?_
  refine go_istore_n (lv' := [(2, vi (-1)), (0, vr p), (1, vr a)]) X d_People_divide_11 rfl (by decide) rfl ?_
  refine go_iconst (v := 0) X d_People_divide_12 ?_
  refine go_istore_n (lv' := [(3, vi 0), (2, vi (-1)), (0, vr p), (1, vr a)]) X d_People_divide_13 rfl (by decide) rfl ?_
  refine go_aload_n X d_People_divide_14 rfl rfl ?_
  refine go_get (v := vi (V 0)) X f_People_51 h.1.1 rfl d_People_divide_15 (congrArg (s_v .int) (show M11 p 0 = V 0 by rw [rw13]; simp [rset, inc])) ?_
  refine go_top (v' := vi b0) X (by rw [hVb]) ?_
  refine go_istore (lv' := [(4, vi b0), (3, vi 0), (2, vi (-1)), (0, vr p), (1, vr a)]) X d_People_divide_18 (by decide) rfl ?_
  have hpl0 : ppl sh M11 p (dv0 V) B N Lw Pb := ⟨pe20, rw13, rw14, rw15, rw16, rw17⟩
  have lp : ∀ (fuel : Nat) (i : Int) (bg : Int) (lv : Int) (V1 : Int → Int) (B1 : Int → Int) (N1 : Int → Int) (P1 : Int → Int) (Mx : s_M), (b0 ≤ i) → (i ≤ e0 ∨ i = b0) → (-1 ≤ bg ∧ bg ≤ 2000) → (0 ≤ lv ∧ lv ≤ i - b0) → ((0 ≤ V1 5 ∧ V1 5 ≤ 60) ∧ 1 ≤ V1 7 ∧ V1 7 ≤ 3) → (V1 1 = e0) → (ppl sh Mx p V1 B1 N1 Lw P1) → (tv sh Mx a K t) → (fr (fun z => p ≤ z ∧ z ≤ p + 4) M Mx) → (it (dvs t) (e0 - i).toNat i (bg, lv, V1, B1, N1, P1) = dvl t V B N Pb b0 e0) → (e0 - i).toNat < fuel → Go g 0 0 sh Mx sz 20 [(0, vr p), (1, vr a), (2, vi bg), (3, vi lv), (4, vi i)] [] := by
    intro fuel
    induction fuel with
    | zero => intro i bg lv V1 B1 N1 P1 Mx hi hi2 hbg hlv hrg hVE hpl hta hfr hp hm_lp; exact absurd hm_lp (Nat.not_lt_zero _)
    | succ fuel ih_lp =>
      intro i bg lv V1 B1 N1 P1 Mx hi hi2 hbg hlv hrg hVE hpl hta hfr hp hm_lp
      refine go_iload X d_People_divide_20 rfl ?_
      refine go_aload_n X d_People_divide_22 rfl rfl ?_
      refine go_get (v := vi (V1 1)) X f_People_55 h.1.1 rfl d_People_divide_23 (congrArg (s_v .int) (show Mx p 1 = V1 1 by rw [hpl.2.1])) ?_
      refine go_top (v' := vi e0) X (by rw [hVE]) ?_
      refine go_icmp_ge (tgt := 123) X d_People_divide_26 rfl (by omega) (by omega) (fun hq21 => ?_) (fun hq21 => ?_)
      · skip
        refine go_aload_n X d_People_divide_123 rfl rfl ?_
        refine go_iload_n X d_People_divide_124 rfl rfl ?_
        refine go_aload_n X d_People_divide_125 rfl rfl ?_
        refine go_get (v := vi (V1 1)) X f_People_55 h.1.1 rfl d_People_divide_126 (congrArg (s_v .int) (show Mx p 1 = V1 1 by rw [hpl.2.1])) ?_
        refine go_top (v' := vi e0) X (by rw [hVE]) ?_
        refine go_cV (st2 := []) (r := []) X k_People_84 (c_People_addWord l D hpl (b := bg) (e := e0) (by omega) hrg.1) hpl.1.1 rfl rfl (by omega) (Nat.le_of_ble_eq_true rfl) d_People_divide_129 (by omega) (by omega) (fun v' sh' M22 sz' hpp => ?_)
        obtain ⟨e23, e24, e25, pq26, fr27⟩ := hpp
        subst e23
        rw [e24, e25]
        show Go g 0 0 sh M22 sz 132 [(0, vr p), (1, vr a), (2, vi bg), (3, vi lv), (4, vi i)] []
        have hpl2 : ppl sh M22 p (adV bg V1) (adB bg V1 B1) (adN bg e0 V1 N1) Lw P1 := pq26
        have hav := adV_f (b := bg) hrg.1
        have fr28 : fr (fun z => p ≤ z ∧ z ≤ p + 4) M M22 := fun z hz => (fr27 z hz).trans (hfr z hz)
        have pd29 : tv sh M22 a K t := hta.mv (fun z z1 z2 => ⟨rfl, fr27 z (by show ¬ (p ≤ z ∧ z ≤ p + 4); omega)⟩)
        refine go_vret X d_People_divide_132 rfl (by omega) (by omega) ?_
        have hfin := it_fin (dvs t) hp (by omega)
        rw [hfin]
        exact ⟨rfl, rfl, rfl, hpl2, fr28⟩
      · skip
        refine go_aload_n X d_People_divide_29 rfl rfl ?_
        refine go_iload X d_People_divide_30 rfl ?_
        refine go_cVf (st2 := [vi (tg t i)]) (r := []) X k_People_35 (k_Text_at l D hta (by omega)) ht.1.1 rfl rfl (by omega) (Nat.le_of_ble_eq_true rfl) d_People_divide_32 (by omega) (by omega) rfl ?_
        have hr0 := hch i
        refine go_istore (lv' := [(5, vi (tg t i)), (0, vr p), (1, vr a), (2, vi bg), (3, vi lv), (4, vi i)]) X d_People_divide_35 (by decide) rfl ?_
        refine go_iload_n X d_People_divide_37 rfl rfl ?_
        refine go_if_gt (tgt := 49) X d_People_divide_38 rfl (by omega) (fun hq30 => ?_) (fun hq30 => ?_)
        · skip
          refine go_iload_n X d_People_divide_49 rfl rfl ?_
          refine go_if_ge (tgt := 58) X d_People_divide_50 rfl (by omega) (fun hq31 => ?_) (fun hq31 => ?_)
          · skip
            refine go_iload_n X d_People_divide_58 rfl rfl ?_
            refine go_istore_n (lv' := [(2, vi bg), (5, vi (tg t i)), (0, vr p), (1, vr a), (3, vi lv), (4, vi i)]) X d_People_divide_59 rfl (by decide) rfl ?_
            refine go_iload_n X d_People_divide_60 rfl rfl ?_
            refine go_iload X d_People_divide_61 rfl ?_
            refine go_cSf (st2 := [vi (p_lev lv (tg t i))]) (r := []) X k_People_39 (c_levelBehind l D (by omega) (by omega)) rfl rfl (by omega) (Nat.le_of_ble_eq_true rfl) d_People_divide_63 (by omega) (by omega) rfl ?_
            refine go_istore_n (lv' := [(3, vi (p_lev lv (tg t i))), (2, vi bg), (5, vi (tg t i)), (0, vr p), (1, vr a), (4, vi i)]) X d_People_divide_66 rfl (by decide) rfl ?_
            refine go_goto (tgt := 117) X d_People_divide_67 rfl ?_
            have hbg9 : -1 ≤ bg ∧ bg ≤ 2000 := by omega
            have hlv9 := p_lev_rng (c := tg t i) hlv
            have hlv9 : 0 ≤ p_lev lv (tg t i) ∧ p_lev lv (tg t i) ≤ i + 1 - b0 := by omega
            have hrg9 := hrg
            have hVE9 := hVE
            have hpl9 := hpl
            have hs9 : dvs t i (bg, lv, V1, B1, N1, P1) = (bg, p_lev lv (tg t i), V1, B1, N1, P1) := by
              unfold dvs
              rw [if_pos (Or.inl hq30), show (if (bg, lv, V1, B1, N1, P1).1 < 0 then i else (bg, lv, V1, B1, N1, P1).1) = bg from if_neg (by omega)]
            have hn := it_nxt (dvs t) hp (by omega) hs9
            refine go_iinc (v := 1) (x := i) (lv' := [(4, vi (i + 1)), (3, vi (p_lev lv (tg t i))), (2, vi bg), (5, vi (tg t i)), (0, vr p), (1, vr a)]) X d_People_divide_117 rfl (by decide) rfl ?_
            refine go_goto (tgt := 20) X d_People_divide_120 rfl ?_
            refine go_lv (lv' := [(0, vr p), (1, vr a), (2, vi bg), (3, vi (p_lev lv (tg t i))), (4, vi (i + 1))]) X [4, 5, 2, 1, 0] rfl ?_
            exact ih_lp (i + 1) bg (p_lev lv (tg t i)) V1 B1 N1 P1 Mx (by omega) (by omega) hbg9 hlv9 hrg9 hVE9 hpl9 hta hfr hn (by omega)
          · skip
            refine go_iload X d_People_divide_53 rfl ?_
            refine go_goto (tgt := 59) X d_People_divide_55 rfl ?_
            refine go_istore_n (lv' := [(2, vi i), (5, vi (tg t i)), (0, vr p), (1, vr a), (3, vi lv), (4, vi i)]) X d_People_divide_59 rfl (by decide) rfl ?_
            refine go_iload_n X d_People_divide_60 rfl rfl ?_
            refine go_iload X d_People_divide_61 rfl ?_
            refine go_cSf (st2 := [vi (p_lev lv (tg t i))]) (r := []) X k_People_39 (c_levelBehind l D (by omega) (by omega)) rfl rfl (by omega) (Nat.le_of_ble_eq_true rfl) d_People_divide_63 (by omega) (by omega) rfl ?_
            refine go_istore_n (lv' := [(3, vi (p_lev lv (tg t i))), (2, vi i), (5, vi (tg t i)), (0, vr p), (1, vr a), (4, vi i)]) X d_People_divide_66 rfl (by decide) rfl ?_
            refine go_goto (tgt := 117) X d_People_divide_67 rfl ?_
            have hbg9 : -1 ≤ i ∧ i ≤ 2000 := by omega
            have hlv9 := p_lev_rng (c := tg t i) hlv
            have hlv9 : 0 ≤ p_lev lv (tg t i) ∧ p_lev lv (tg t i) ≤ i + 1 - b0 := by omega
            have hrg9 := hrg
            have hVE9 := hVE
            have hpl9 := hpl
            have hs9 : dvs t i (bg, lv, V1, B1, N1, P1) = (i, p_lev lv (tg t i), V1, B1, N1, P1) := by
              unfold dvs
              rw [if_pos (Or.inl hq30), show (if (bg, lv, V1, B1, N1, P1).1 < 0 then i else (bg, lv, V1, B1, N1, P1).1) = i from if_pos hq31]
            have hn := it_nxt (dvs t) hp (by omega) hs9
            refine go_iinc (v := 1) (x := i) (lv' := [(4, vi (i + 1)), (3, vi (p_lev lv (tg t i))), (2, vi i), (5, vi (tg t i)), (0, vr p), (1, vr a)]) X d_People_divide_117 rfl (by decide) rfl ?_
            refine go_goto (tgt := 20) X d_People_divide_120 rfl ?_
            refine go_lv (lv' := [(0, vr p), (1, vr a), (2, vi i), (3, vi (p_lev lv (tg t i))), (4, vi (i + 1))]) X [4, 5, 2, 1, 0] rfl ?_
            exact ih_lp (i + 1) i (p_lev lv (tg t i)) V1 B1 N1 P1 Mx (by omega) (by omega) hbg9 hlv9 hrg9 hVE9 hpl9 hta hfr hn (by omega)
        · skip
          refine go_iload X d_People_divide_41 rfl ?_
          refine go_cSf (st2 := [vi (s_b (isdiv (tg t i)))]) (r := []) X k_People_81 (c_People_isDivider l D (by omega)) rfl rfl (by omega) (Nat.le_of_ble_eq_true rfl) d_People_divide_43 (by omega) (by omega) rfl ?_
          refine go_ifb_ne (tgt := 70) X d_People_divide_46 rfl (fun hq32 => ?_) (fun hq32 => ?_)
          · skip
            refine go_aload_n X d_People_divide_70 rfl rfl ?_
            refine go_iload_n X d_People_divide_71 rfl rfl ?_
            refine go_iload X d_People_divide_72 rfl ?_
            refine go_cV (st2 := []) (r := []) X k_People_84 (c_People_addWord l D hpl (b := bg) (e := i) (by omega) hrg.1) hpl.1.1 rfl rfl (by omega) (Nat.le_of_ble_eq_true rfl) d_People_divide_74 (by omega) (by omega) (fun v' sh' M33 sz' hpp => ?_)
            obtain ⟨e34, e35, e36, pq37, fr38⟩ := hpp
            subst e34
            rw [e35, e36]
            show Go g 0 0 sh M33 sz 77 [(5, vi (tg t i)), (0, vr p), (1, vr a), (2, vi bg), (3, vi lv), (4, vi i)] []
            have hpl2 : ppl sh M33 p (adV bg V1) (adB bg V1 B1) (adN bg i V1 N1) Lw P1 := pq37
            have hav := adV_f (b := bg) hrg.1
            have fr39 : fr (fun z => p ≤ z ∧ z ≤ p + 4) M M33 := fun z hz => (fr38 z hz).trans (hfr z hz)
            have pd40 : tv sh M33 a K t := hta.mv (fun z z1 z2 => ⟨rfl, fr38 z (by show ¬ (p ≤ z ∧ z ≤ p + 4); omega)⟩)
            refine go_iconst (v := (-1)) X d_People_divide_77 ?_
            refine go_istore_n (lv' := [(2, vi (-1)), (5, vi (tg t i)), (0, vr p), (1, vr a), (3, vi lv), (4, vi i)]) X d_People_divide_78 rfl (by decide) rfl ?_
            refine go_iload X d_People_divide_79 rfl ?_
            refine go_bipush (v := 44) X d_People_divide_81 (by decide) ?_
            refine go_icmp_ne (tgt := 117) X d_People_divide_83 rfl (by omega) (by omega) (fun hq41 => ?_) (fun hq41 => ?_)
            · skip
              have hbg9 : -1 ≤ (-1 : Int) ∧ (-1 : Int) ≤ 2000 := by decide
              have hlv9 : 0 ≤ lv ∧ lv ≤ i + 1 - b0 := by omega
              have hpl9 := hpl2
              have hrg9 : (0 ≤ adV bg V1 5 ∧ adV bg V1 5 ≤ 60) ∧ 1 ≤ adV bg V1 7 ∧ adV bg V1 7 ≤ 3 := by omega
              have hVE9 := hav.2.2.trans hVE
              have hs9 : dvs t i (bg, lv, V1, B1, N1, P1) = (-1, lv, (adV bg V1), (adB bg V1 B1), (adN bg i V1 N1), P1) := by
                unfold dvs dvp
                rw [if_neg (fun q => q.elim (fun q => by have q2 : 0 < lv := q; omega) (fun q => by rw [hq32] at q; exact absurd q (by decide)))]
                rw [if_neg (fun q => hq41 q.1)]
              have hn := it_nxt (dvs t) hp (by omega) hs9
              refine go_iinc (v := 1) (x := i) (lv' := [(4, vi (i + 1)), (2, vi (-1)), (5, vi (tg t i)), (0, vr p), (1, vr a), (3, vi lv)]) X d_People_divide_117 rfl (by decide) rfl ?_
              refine go_goto (tgt := 20) X d_People_divide_120 rfl ?_
              refine go_lv (lv' := [(0, vr p), (1, vr a), (2, vi (-1)), (3, vi lv), (4, vi (i + 1))]) X [3, 4, 1, 5, 0] rfl ?_
              exact ih_lp (i + 1) (-1) lv (adV bg V1) (adB bg V1 B1) (adN bg i V1 N1) P1 M33 (by omega) (by omega) hbg9 hlv9 hrg9 hVE9 hpl9 pd40 fr39 hn (by omega)
            · skip
              refine go_aload_n X d_People_divide_86 rfl rfl ?_
              refine go_get (v := vi ((adV bg V1) 7)) X f_People_72 h.1.1 rfl d_People_divide_87 (congrArg (s_v .int) (show M33 p 7 = (adV bg V1) 7 by rw [hpl2.2.1])) ?_
              refine go_iconst (v := 3) X d_People_divide_90 ?_
              refine go_icmp_ge (tgt := 117) X d_People_divide_91 rfl (by omega) (by omega) (fun hq42 => ?_) (fun hq42 => ?_)
              · skip
                have hbg9 : -1 ≤ (-1 : Int) ∧ (-1 : Int) ≤ 2000 := by decide
                have hlv9 : 0 ≤ lv ∧ lv ≤ i + 1 - b0 := by omega
                have hpl9 := hpl2
                have hrg9 : (0 ≤ adV bg V1 5 ∧ adV bg V1 5 ≤ 60) ∧ 1 ≤ adV bg V1 7 ∧ adV bg V1 7 ≤ 3 := by omega
                have hVE9 := hav.2.2.trans hVE
                have hs9 : dvs t i (bg, lv, V1, B1, N1, P1) = (-1, lv, (adV bg V1), (adB bg V1 B1), (adN bg i V1 N1), P1) := by
                  unfold dvs dvp
                  rw [if_neg (fun q => q.elim (fun q => by have q2 : 0 < lv := q; omega) (fun q => by rw [hq32] at q; exact absurd q (by decide)))]
                  rw [if_neg (fun q => by have q2 : adV bg V1 7 < 3 := q.2; omega)]
                have hn := it_nxt (dvs t) hp (by omega) hs9
                refine go_iinc (v := 1) (x := i) (lv' := [(4, vi (i + 1)), (2, vi (-1)), (5, vi (tg t i)), (0, vr p), (1, vr a), (3, vi lv)]) X d_People_divide_117 rfl (by decide) rfl ?_
                refine go_goto (tgt := 20) X d_People_divide_120 rfl ?_
                refine go_lv (lv' := [(0, vr p), (1, vr a), (2, vi (-1)), (3, vi lv), (4, vi (i + 1))]) X [3, 4, 1, 5, 0] rfl ?_
                exact ih_lp (i + 1) (-1) lv (adV bg V1) (adB bg V1 B1) (adN bg i V1 N1) P1 M33 (by omega) (by omega) hbg9 hlv9 hrg9 hVE9 hpl9 pd40 fr39 hn (by omega)
              · skip
                refine go_aload_n X d_People_divide_94 rfl rfl ?_
                refine go_get (v := vr (p + 4)) X f_People_22 h.1.1 rfl d_People_divide_95 (s_varr (hpl2.1.2.2.2.2.2.2.2.2.1) (by omega)) ?_
                refine go_aload_n X d_People_divide_98 rfl rfl ?_
                refine go_get (v := vi ((adV bg V1) 7)) X f_People_72 h.1.1 rfl d_People_divide_99 (congrArg (s_v .int) (show M33 p 7 = (adV bg V1) 7 by rw [hpl2.2.1])) ?_
                refine go_aload_n X d_People_divide_102 rfl rfl ?_
                refine go_get (v := vi ((adV bg V1) 5)) X f_People_62 h.1.1 rfl d_People_divide_103 (congrArg (s_v .int) (show M33 p 5 = (adV bg V1) 5 by rw [hpl2.2.1])) ?_
                refine go_iast X h.1.2.2.2.2.1 (by omega) (by omega) d_People_divide_106 ?_
                generalize hM44 : m_s M33 (p + 4) ((adV bg V1) 7) ((adV bg V1) 5) = M43
                have pe52 : pev sh M43 p := by rw [← hM44]; exact hpl2.1.off (m_s_a (by omega))
                have rw45 : M43 p = (adV bg V1) := by rw [← hM44]; exact (m_s_a (of_ne1 (by decide))).trans hpl2.2.1
                have rw46 : M43 (p + 1) = (adB bg V1 B1) := by rw [← hM44]; exact (m_s_a (of_ne (by decide))).trans hpl2.2.2.1
                have rw47 : M43 (p + 2) = (adN bg i V1 N1) := by rw [← hM44]; exact (m_s_a (of_ne (by decide))).trans hpl2.2.2.2.1
                have rw48 : M43 (p + 3) = Lw := by rw [← hM44]; exact (m_s_a (of_ne (by decide))).trans hpl2.2.2.2.2.1
                have rw49 : M43 (p + 4) = rset P1 ((adV bg V1) 7) ((adV bg V1) 5) := by rw [← hM44]; exact row_set hpl2.2.2.2.2.2
                have pd50 : tv sh M43 a K t := by rw [← hM44]; exact pd40.mv (as_set (by omega))
                have fr51 : fr (fun z => p ≤ z ∧ z ≤ p + 4) M M43 := fun z hz => by
                  have hz1 : ¬ (p ≤ z ∧ z ≤ p + 4) := hz
                  rw [← hM44]; exact (m_s_a (by omega)).trans (fr39 z hz)
                clear fr39 pd40 hM44
                refine go_aload_n X d_People_divide_107 rfl rfl ?_
                refine go_dup X d_People_divide_108 rfl ?_
                refine go_get (v := vi ((adV bg V1) 7)) X f_People_72 h.1.1 rfl d_People_divide_109 (congrArg (s_v .int) (show M43 p 7 = (adV bg V1) 7 by rw [rw45])) ?_
                refine go_iconst (v := 1) X d_People_divide_112 ?_
                refine go_iadd X d_People_divide_113 ?_
                refine go_put (x := (((adV bg V1) 7) + 1)) (v := vi (((adV bg V1) 7) + 1)) X f_People_72 h.1.1 rfl d_People_divide_114 rfl rfl rfl ?_
                generalize hM54 : m_s M43 p 7 (((adV bg V1) 7) + 1) = M53
                have pe62 : pev sh M53 p := by rw [← hM54]; exact pe52.put (by decide)
                have rw55 : M53 p = inc (adV bg V1) 7 := by rw [← hM54]; exact row_inc rw45
                have rw56 : M53 (p + 1) = (adB bg V1 B1) := by rw [← hM54]; exact (m_s_a (of_ne0 (by decide))).trans rw46
                have rw57 : M53 (p + 2) = (adN bg i V1 N1) := by rw [← hM54]; exact (m_s_a (of_ne0 (by decide))).trans rw47
                have rw58 : M53 (p + 3) = Lw := by rw [← hM54]; exact (m_s_a (of_ne0 (by decide))).trans rw48
                have rw59 : M53 (p + 4) = rset P1 ((adV bg V1) 7) ((adV bg V1) 5) := by rw [← hM54]; exact (m_s_a (of_ne0 (by decide))).trans rw49
                have pd60 : tv sh M53 a K t := by rw [← hM54]; exact pd50.mv (as_set (by omega))
                have fr61 : fr (fun z => p ≤ z ∧ z ≤ p + 4) M M53 := fun z hz => by
                  have hz1 : ¬ (p ≤ z ∧ z ≤ p + 4) := hz
                  rw [← hM54]; exact (m_s_a (by omega)).trans (fr51 z hz)
                clear fr51 pd50 rw45 rw46 rw47 rw48 rw49 hM54
                have hbg9 : -1 ≤ (-1 : Int) ∧ (-1 : Int) ≤ 2000 := by decide
                have hlv9 : 0 ≤ lv ∧ lv ≤ i + 1 - b0 := by omega
                have hpl9 : ppl sh M53 p (inc (adV bg V1) 7) (adB bg V1 B1) (adN bg i V1 N1) Lw (rset P1 ((adV bg V1) 7) ((adV bg V1) 5)) := ⟨pe62, rw55, rw56, rw57, rw58, rw59⟩
                have hrg9 : (0 ≤ (inc (adV bg V1) 7) 5 ∧ (inc (adV bg V1) 7) 5 ≤ 60) ∧ 1 ≤ (inc (adV bg V1) 7) 7 ∧ (inc (adV bg V1) 7) 7 ≤ 3 := by rw [show (inc (adV bg V1) 7) 5 = adV bg V1 5 from if_neg (by decide), show (inc (adV bg V1) 7) 7 = adV bg V1 7 + 1 from if_pos rfl]; omega
                have hVE9 : (inc (adV bg V1) 7) 1 = e0 := (if_neg (by decide)).trans (hav.2.2.trans hVE)
                have hs9 : dvs t i (bg, lv, V1, B1, N1, P1) = (-1, lv, inc (adV bg V1) 7, (adB bg V1 B1), (adN bg i V1 N1), rset P1 ((adV bg V1) 7) ((adV bg V1) 5)) := by
                  unfold dvs dvp
                  rw [if_neg (fun q => q.elim (fun q => by have q2 : 0 < lv := q; omega) (fun q => by rw [hq32] at q; exact absurd q (by decide)))]
                  rw [if_pos ⟨hq41, hq42⟩]
                have hn := it_nxt (dvs t) hp (by omega) hs9
                refine go_iinc (v := 1) (x := i) (lv' := [(4, vi (i + 1)), (2, vi (-1)), (5, vi (tg t i)), (0, vr p), (1, vr a), (3, vi lv)]) X d_People_divide_117 rfl (by decide) rfl ?_
                refine go_goto (tgt := 20) X d_People_divide_120 rfl ?_
                refine go_lv (lv' := [(0, vr p), (1, vr a), (2, vi (-1)), (3, vi lv), (4, vi (i + 1))]) X [3, 4, 1, 5, 0] rfl ?_
                exact ih_lp (i + 1) (-1) lv (inc (adV bg V1) 7) (adB bg V1 B1) (adN bg i V1 N1) (rset P1 ((adV bg V1) 7) ((adV bg V1) 5)) M53 (by omega) (by omega) hbg9 hlv9 hrg9 hVE9 hpl9 pd60 fr61 hn (by omega)
          · skip
            refine go_iload_n X d_People_divide_49 rfl rfl ?_
            refine go_if_ge (tgt := 58) X d_People_divide_50 rfl (by omega) (fun hq63 => ?_) (fun hq63 => ?_)
            · skip
              refine go_iload_n X d_People_divide_58 rfl rfl ?_
              refine go_istore_n (lv' := [(2, vi bg), (5, vi (tg t i)), (0, vr p), (1, vr a), (3, vi lv), (4, vi i)]) X d_People_divide_59 rfl (by decide) rfl ?_
              refine go_iload_n X d_People_divide_60 rfl rfl ?_
              refine go_iload X d_People_divide_61 rfl ?_
              refine go_cSf (st2 := [vi (p_lev lv (tg t i))]) (r := []) X k_People_39 (c_levelBehind l D (by omega) (by omega)) rfl rfl (by omega) (Nat.le_of_ble_eq_true rfl) d_People_divide_63 (by omega) (by omega) rfl ?_
              refine go_istore_n (lv' := [(3, vi (p_lev lv (tg t i))), (2, vi bg), (5, vi (tg t i)), (0, vr p), (1, vr a), (4, vi i)]) X d_People_divide_66 rfl (by decide) rfl ?_
              refine go_goto (tgt := 117) X d_People_divide_67 rfl ?_
              have hbg9 : -1 ≤ bg ∧ bg ≤ 2000 := by omega
              have hlv9 := p_lev_rng (c := tg t i) hlv
              have hlv9 : 0 ≤ p_lev lv (tg t i) ∧ p_lev lv (tg t i) ≤ i + 1 - b0 := by omega
              have hrg9 := hrg
              have hVE9 := hVE
              have hpl9 := hpl
              have hs9 : dvs t i (bg, lv, V1, B1, N1, P1) = (bg, p_lev lv (tg t i), V1, B1, N1, P1) := by
                unfold dvs
                rw [if_pos (Or.inr hq32), show (if (bg, lv, V1, B1, N1, P1).1 < 0 then i else (bg, lv, V1, B1, N1, P1).1) = bg from if_neg (by omega)]
              have hn := it_nxt (dvs t) hp (by omega) hs9
              refine go_iinc (v := 1) (x := i) (lv' := [(4, vi (i + 1)), (3, vi (p_lev lv (tg t i))), (2, vi bg), (5, vi (tg t i)), (0, vr p), (1, vr a)]) X d_People_divide_117 rfl (by decide) rfl ?_
              refine go_goto (tgt := 20) X d_People_divide_120 rfl ?_
              refine go_lv (lv' := [(0, vr p), (1, vr a), (2, vi bg), (3, vi (p_lev lv (tg t i))), (4, vi (i + 1))]) X [4, 5, 2, 1, 0] rfl ?_
              exact ih_lp (i + 1) bg (p_lev lv (tg t i)) V1 B1 N1 P1 Mx (by omega) (by omega) hbg9 hlv9 hrg9 hVE9 hpl9 hta hfr hn (by omega)
            · skip
              refine go_iload X d_People_divide_53 rfl ?_
              refine go_goto (tgt := 59) X d_People_divide_55 rfl ?_
              refine go_istore_n (lv' := [(2, vi i), (5, vi (tg t i)), (0, vr p), (1, vr a), (3, vi lv), (4, vi i)]) X d_People_divide_59 rfl (by decide) rfl ?_
              refine go_iload_n X d_People_divide_60 rfl rfl ?_
              refine go_iload X d_People_divide_61 rfl ?_
              refine go_cSf (st2 := [vi (p_lev lv (tg t i))]) (r := []) X k_People_39 (c_levelBehind l D (by omega) (by omega)) rfl rfl (by omega) (Nat.le_of_ble_eq_true rfl) d_People_divide_63 (by omega) (by omega) rfl ?_
              refine go_istore_n (lv' := [(3, vi (p_lev lv (tg t i))), (2, vi i), (5, vi (tg t i)), (0, vr p), (1, vr a), (4, vi i)]) X d_People_divide_66 rfl (by decide) rfl ?_
              refine go_goto (tgt := 117) X d_People_divide_67 rfl ?_
              have hbg9 : -1 ≤ i ∧ i ≤ 2000 := by omega
              have hlv9 := p_lev_rng (c := tg t i) hlv
              have hlv9 : 0 ≤ p_lev lv (tg t i) ∧ p_lev lv (tg t i) ≤ i + 1 - b0 := by omega
              have hrg9 := hrg
              have hVE9 := hVE
              have hpl9 := hpl
              have hs9 : dvs t i (bg, lv, V1, B1, N1, P1) = (i, p_lev lv (tg t i), V1, B1, N1, P1) := by
                unfold dvs
                rw [if_pos (Or.inr hq32), show (if (bg, lv, V1, B1, N1, P1).1 < 0 then i else (bg, lv, V1, B1, N1, P1).1) = i from if_pos hq63]
              have hn := it_nxt (dvs t) hp (by omega) hs9
              refine go_iinc (v := 1) (x := i) (lv' := [(4, vi (i + 1)), (3, vi (p_lev lv (tg t i))), (2, vi i), (5, vi (tg t i)), (0, vr p), (1, vr a)]) X d_People_divide_117 rfl (by decide) rfl ?_
              refine go_goto (tgt := 20) X d_People_divide_120 rfl ?_
              refine go_lv (lv' := [(0, vr p), (1, vr a), (2, vi i), (3, vi (p_lev lv (tg t i))), (4, vi (i + 1))]) X [4, 5, 2, 1, 0] rfl ?_
              exact ih_lp (i + 1) i (p_lev lv (tg t i)) V1 B1 N1 P1 Mx (by omega) (by omega) hbg9 hlv9 hrg9 hVE9 hpl9 hta hfr hn (by omega)
  refine go_lv (lv' := [(0, vr p), (1, vr a), (2, vi (-1)), (3, vi 0), (4, vi b0)]) X [3, 4, 2, 1, 0] rfl ?_
  exact lp _ b0 (-1) 0 (dv0 V) B N Pb M11 (by omega) (by omega) (by omega) (by omega) (by simp [dv0, rset]) (by rw [← hVe]; simp [dv0, rset]) hpl0 pd18 fr19 rfl (Nat.lt_succ_self _)
