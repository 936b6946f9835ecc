/-- the numbers of a divided name are in their ranges -/
def dok (V B N Pb : Int → Int) : Prop := (0 ≤ V 5 ∧ V 5 ≤ 60) ∧ (1 ≤ V 7 ∧ V 7 ≤ 3) ∧ (∀ j, 0 ≤ j → j < V 5 → (0 ≤ B j ∧ B j ≤ 1000) ∧ 0 ≤ N j ∧ N j ≤ 1000) ∧ ∀ j, 1 ≤ j → j < V 7 → 0 ≤ Pb j ∧ Pb j ≤ V 5
theorem dok_ad {V B N Pb : Int → Int} {b e : Int} (h : dok V B N Pb) (hb : -1 ≤ b ∧ b ≤ 1000) (he : 0 ≤ e ∧ e ≤ 1000) : dok (adV b V) (adB b V B) (adN b e V N) Pb := by
  obtain ⟨h1, h2, h3, h4⟩ := h
  by_cases c : 0 ≤ b ∧ V 5 < 60
  · rw [show adV b V = inc V 5 from if_pos c, show adB b V B = rset B (V 5) b from if_pos c, show adN b e V N = rset N (V 5) e from if_pos c]
    have e1 : inc V 5 5 = V 5 + 1 := if_pos rfl
    have e2 : inc V 5 7 = V 7 := if_neg (by decide)
    refine ⟨by rw [e1]; omega, by rw [e2]; exact h2, fun j j0 j1 => ?_, fun j j0 j1 => ?_⟩
    · rw [e1] at j1
      unfold rset
      by_cases hj : j = V 5
      · rw [if_pos hj, if_pos hj]
        omega
      · rw [if_neg hj, if_neg hj]
        exact h3 j j0 (by omega)
    · rw [e2] at j1
      rw [e1]
      have := h4 j j0 j1
      omega
  · rw [show adV b V = V from if_neg c, show adB b V B = B from if_neg c, show adN b e V N = N from if_neg c]
    exact ⟨h1, h2, h3, h4⟩
theorem dok_dvp {V B N Pb : Int → Int} {c : Int} (h : dok V B N Pb) : dok (dvp c V B N Pb).1 (dvp c V B N Pb).2.1 (dvp c V B N Pb).2.2.1 (dvp c V B N Pb).2.2.2 := by
  obtain ⟨h1, h2, h3, h4⟩ := h
  by_cases q : c = 44 ∧ V 7 < 3
  · rw [show dvp c V B N Pb = (inc V 7, B, N, rset Pb (V 7) (V 5)) from if_pos q]
    have e1 : inc V 7 5 = V 5 := if_neg (by decide)
    have e2 : inc V 7 7 = V 7 + 1 := if_pos rfl
    show dok (inc V 7) B N (rset Pb (V 7) (V 5))
    refine ⟨by rw [e1]; exact h1, by rw [e2]; omega, fun j j0 j1 => h3 j j0 (by rw [e1] at j1; exact j1), fun j j0 j1 => ?_⟩
    rw [e2] at j1
    rw [e1]
    show 0 ≤ rset Pb (V 7) (V 5) j ∧ rset Pb (V 7) (V 5) j ≤ V 5
    unfold rset
    by_cases hj : j = V 7
    · rw [if_pos hj]
      omega
    · rw [if_neg hj]
      exact h4 j j0 (by omega)
  · rw [show dvp c V B N Pb = (V, B, N, Pb) from if_neg q]
    exact ⟨h1, h2, h3, h4⟩
theorem dvl_ok {t : List Int} {V B N Pb : Int → Int} {b e : Int} (hb : 0 ≤ b ∧ b ≤ 1000) (he : 0 ≤ e ∧ e ≤ 1000) : (-1 ≤ (dvl t V B N Pb b e).1 ∧ (dvl t V B N Pb b e).1 ≤ 1000) ∧ dok (dvl t V B N Pb b e).2.2.1 (dvl t V B N Pb b e).2.2.2.1 (dvl t V B N Pb b e).2.2.2.2.1 (dvl t V B N Pb b e).2.2.2.2.2 := by
  have key : ∀ (m : Nat) (i : Int) (s : dst), 0 ≤ i → i + m ≤ 1000 ∨ m = 0 → ((-1 ≤ s.1 ∧ s.1 ≤ 1000) ∧ dok s.2.2.1 s.2.2.2.1 s.2.2.2.2.1 s.2.2.2.2.2) → ((-1 ≤ (it (dvs t) m i s).1 ∧ (it (dvs t) m i s).1 ≤ 1000) ∧ dok (it (dvs t) m i s).2.2.1 (it (dvs t) m i s).2.2.2.1 (it (dvs t) m i s).2.2.2.2.1 (it (dvs t) m i s).2.2.2.2.2) := by
    intro m
    induction m with
    | zero => intro i s _ _ h; exact h
    | succ m ih =>
      intro i s hi hm h
      refine ih (i + 1) (dvs t i s) (by omega) (by omega) ?_
      unfold dvs
      by_cases q : 0 < s.2.1 ∨ isdiv (tg t i) = false
      · rw [if_pos q]
        refine ⟨?_, h.2⟩
        show -1 ≤ (if s.1 < 0 then i else s.1) ∧ (if s.1 < 0 then i else s.1) ≤ 1000
        split <;> omega
      · rw [if_neg q]
        exact ⟨(by decide : -1 ≤ (-1 : Int) ∧ (-1 : Int) ≤ 1000), dok_dvp (dok_ad h.2 h.1 (by omega))⟩
  refine key (e - b).toNat b _ hb.1 (by omega) ⟨(by decide : -1 ≤ (-1 : Int) ∧ (-1 : Int) ≤ 1000), ?_⟩
  have e1 : dv0 V 5 = 0 := by simp [dv0, rset]
  have e2 : dv0 V 7 = 1 := by simp [dv0, rset]
  exact ⟨by show 0 ≤ dv0 V 5 ∧ dv0 V 5 ≤ 60; omega, by show 1 ≤ dv0 V 7 ∧ dv0 V 7 ≤ 3; omega, fun j j0 j1 => absurd (show j < dv0 V 5 from j1) (by omega), fun j j0 j1 => absurd (show j < dv0 V 7 from j1) (by omega)⟩
/-- which words are low -/
def lws (t : List Int) (B N : Int → Int) (i : Int) (W : Int → Int) : Int → Int := rset W i (s_b (p_sml (flo t (N i - B i).toNat (B i) 0)))
def lwl (t : List Int) (B N W : Int → Int) (n : Int) : Int → Int := it (lws t B N) (n - 0).toNat 0 W
def tkV (V Lw Pb : Int → Int) : Int → Int := if V 7 = 1 then ao1 V Lw (V 5) else ao2 V Lw Pb (V 5) (V 7)
def dV (t : List Int) (V B N Pb : Int → Int) (b e : Int) : Int → Int := adV (dvl t V B N Pb b e).1 (dvl t V B N Pb b e).2.2.1
def dB (t : List Int) (V B N Pb : Int → Int) (b e : Int) : Int → Int := adB (dvl t V B N Pb b e).1 (dvl t V B N Pb b e).2.2.1 (dvl t V B N Pb b e).2.2.2.1
def dN (t : List Int) (V B N Pb : Int → Int) (b e : Int) : Int → Int := adN (dvl t V B N Pb b e).1 e (dvl t V B N Pb b e).2.2.1 (dvl t V B N Pb b e).2.2.2.2.1
def dP (t : List Int) (V B N Pb : Int → Int) (b e : Int) : Int → Int := (dvl t V B N Pb b e).2.2.2.2.2
theorem d_ok {t : List Int} {V B N Pb : Int → Int} {b e : Int} (hb : 0 ≤ b ∧ b ≤ 1000) (he : 0 ≤ e ∧ e ≤ 1000) : dok (dV t V B N Pb b e) (dB t V B N Pb b e) (dN t V B N Pb b e) (dP t V B N Pb b e) := dok_ad (dvl_ok hb he).2 (dvl_ok hb he).1 he
theorem flo_rng {t : List Int} (h : ∀ i, 0 ≤ tg t i ∧ tg t i < 65536) : ∀ (m : Nat) (i v : Int), 0 ≤ flo t m i v ∧ flo t m i v < 65536
  | 0, i, v => by show (0 : Int) ≤ 0 ∧ (0 : Int) < 65536; decide
  | m + 1, i, v => by
    unfold flo
    split
    · exact h i
    · exact flo_rng h m (i + 1) _
set_option maxHeartbeats 4000000 in
set_option maxRecDepth 100000 in
theorem c_People_takeApart (l : Launch) (D : va_G) {sh : s_S} {M : s_M} {sz p : Int} {V B N Lw Pb : Int → Int} (h : ppl sh M p V B N Lw Pb) {a : Int} {K : Nat} {t : List Int} (ht : tv sh M a K t) {b0 e0 : Int} (hVb : V 0 = b0) (hVe : V 1 = e0) (rb : 0 ≤ b0 ∧ b0 ≤ 1000) (re : 0 ≤ e0 ∧ e0 ≤ 1000) (hd : p + 4 < a) (hLr : ∀ i, 0 ≤ Lw i ∧ Lw i ≤ 1) : Sp l D y_People_takeApart prog_7_method_5_code 3 none 4 0 0 [vr p, vr a] sh M sz (fun v' sh' M' sz' => v' = none ∧ sh' = sh ∧ sz' = sz ∧ ppl sh M' p (tkV (dV t V B N Pb b0 e0) (lwl t (dB t V B N Pb b0 e0) (dN t V B N Pb b0 e0) Lw ((dV t V B N Pb b0 e0) 5)) (dP t V B N Pb b0 e0)) (dB t V B N Pb b0 e0) (dN t V B N Pb b0 e0) (lwl t (dB t V B N Pb b0 e0) (dN t V B N Pb b0 e0) Lw ((dV t V B N Pb b0 e0) 5)) (dP t V B N Pb b0 e0) ∧ fr (fun z => p ≤ z ∧ z ≤ p + 4) M M') := by
  have hp0 : 0 ≤ p := h.1.2.2.2.2.2.2.2.2.2
  have hch := ht.rng
  have hln := ht.len
  refine Sp.ofGo (own := "CiteForge$People") (nm := "takeApart") (by decide) rfl rfl (Nat.le_of_ble_eq_true rfl) (lv := [(0, vr p), (1, vr a)]) rfl ?_
  intro g X
  refine go_aload_n X d_People_takeApart_0 rfl rfl ?_
  refine go_aload_n X d_People_takeApart_1 rfl rfl ?_
  refine go_cV (st2 := []) (r := []) X k_People_58 (c_People_divide l D h ht hVb hVe rb re hd) h.1.1 rfl rfl (by omega) (Nat.le_of_ble_eq_true rfl) d_People_takeApart_2 (by omega) (by omega) (fun v' sh' M1 sz' hpp => ?_)
  obtain ⟨e1, e2, e3, pd0, f1⟩ := hpp
  subst e1
  rw [e2, e3]
  show Go g 0 0 sh M1 sz 5 [(0, vr p), (1, vr a)] []
  have hpl1 : ppl sh M1 p (dV t V B N Pb b0 e0) (dB t V B N Pb b0 e0) (dN t V B N Pb b0 e0) Lw (dP t V B N Pb b0 e0) := pd0
  have hta1 : tv sh M1 a K t := ht.mv (fun z z1 z2 => ⟨rfl, f1 z (by show ¬ (p ≤ z ∧ z ≤ p + 4); omega)⟩)
  obtain ⟨ok1, ok2, ok3, ok4⟩ := d_ok (t := t) (V := V) (B := B) (N := N) (Pb := Pb) rb re
  refine go_iconst (v := 0) X d_People_takeApart_5 ?_
  refine go_istore_n (lv' := [(2, vi 0), (0, vr p), (1, vr a)]) X d_People_takeApart_6 rfl (by decide) rfl ?_
  have lp : ∀ (fuel : Nat) (i : Int) (W1 : Int → Int) (Mx : s_M), (0 ≤ i) → (i ≤ (dV t V B N Pb b0 e0) 5) → (ppl sh Mx p (dV t V B N Pb b0 e0) (dB t V B N Pb b0 e0) (dN t V B N Pb b0 e0) W1 (dP t V B N Pb b0 e0)) → (tv sh Mx a K t) → (fr (fun z => p ≤ z ∧ z ≤ p + 4) M Mx) → (∀ j, 0 ≤ W1 j ∧ W1 j ≤ 1) → (it (lws t (dB t V B N Pb b0 e0) (dN t V B N Pb b0 e0)) ((dV t V B N Pb b0 e0) 5 - i).toNat i W1 = lwl t (dB t V B N Pb b0 e0) (dN t V B N Pb b0 e0) Lw ((dV t V B N Pb b0 e0) 5)) → ((dV t V B N Pb b0 e0) 5 - i).toNat < fuel → Go g 0 0 sh Mx sz 7 [(0, vr p), (1, vr a), (2, vi i)] [] := by
    intro fuel
    induction fuel with
    | zero => intro i W1 Mx hi hi2 hpl hta hfr hWr hp hm_lp; exact absurd hm_lp (Nat.not_lt_zero _)
    | succ fuel ih_lp =>
      intro i W1 Mx hi hi2 hpl hta hfr hWr hp hm_lp
      refine go_iload_n X d_People_takeApart_7 rfl rfl ?_
      refine go_aload_n X d_People_takeApart_8 rfl rfl ?_
      refine go_get (v := vi ((dV t V B N Pb b0 e0) 5)) X f_People_62 h.1.1 rfl d_People_takeApart_9 (congrArg (s_v .int) (show Mx p 5 = (dV t V B N Pb b0 e0) 5 by rw [hpl.2.1])) ?_
      refine go_icmp_ge (tgt := 46) X d_People_takeApart_12 rfl (by omega) (by omega) (fun hq1 => ?_) (fun hq1 => ?_)
      · skip
        refine go_aload_n X d_People_takeApart_46 rfl rfl ?_
        refine go_get (v := vi ((dV t V B N Pb b0 e0) 7)) X f_People_72 h.1.1 rfl d_People_takeApart_47 (congrArg (s_v .int) (show Mx p 7 = (dV t V B N Pb b0 e0) 7 by rw [hpl.2.1])) ?_
        refine go_iconst (v := 1) X d_People_takeApart_50 ?_
        refine go_icmp_ne (tgt := 61) X d_People_takeApart_51 rfl (by omega) (by omega) (fun hq2 => ?_) (fun hq2 => ?_)
        · skip
          refine go_aload_n X d_People_takeApart_61 rfl rfl ?_
          refine go_cV (st2 := []) (r := []) X k_People_78 (c_People_assignParts l D hpl hWr ok1 (by omega) (by have := ok4 1 (by omega) (by omega); omega)) hpl.1.1 rfl rfl (by omega) (Nat.le_of_ble_eq_true rfl) d_People_takeApart_62 (by omega) (by omega) (fun v' sh' M3 sz' hpp => ?_)
          obtain ⟨e1, e2, e3, hpl3, f3⟩ := hpp
          subst e1
          rw [e2, e3]
          show Go g 0 0 sh M3 sz 65 [(0, vr p), (1, vr a), (2, vi i)] []
          refine go_vret X d_People_takeApart_65 rfl (by omega) (by omega) ?_
          have hlw : lwl t (dB t V B N Pb b0 e0) (dN t V B N Pb b0 e0) Lw ((dV t V B N Pb b0 e0) 5) = W1 := it_fin (lws t (dB t V B N Pb b0 e0) (dN t V B N Pb b0 e0)) hp (by omega)
          rw [hlw]
          rw [show tkV (dV t V B N Pb b0 e0) W1 (dP t V B N Pb b0 e0) = ao2 (dV t V B N Pb b0 e0) W1 (dP t V B N Pb b0 e0) ((dV t V B N Pb b0 e0) 5) ((dV t V B N Pb b0 e0) 7) from if_neg hq2]
          exact ⟨rfl, rfl, rfl, hpl3, fun z hz => (f3 z hz).trans (hfr z hz)⟩
        · skip
          refine go_aload_n X d_People_takeApart_54 rfl rfl ?_
          refine go_cV (st2 := []) (r := []) X k_People_75 (c_People_assignOnePart l D hpl hWr ok1) hpl.1.1 rfl rfl (by omega) (Nat.le_of_ble_eq_true rfl) d_People_takeApart_55 (by omega) (by omega) (fun v' sh' M3 sz' hpp => ?_)
          obtain ⟨e1, e2, e3, hpl3, f3⟩ := hpp
          subst e1
          rw [e2, e3]
          show Go g 0 0 sh M3 sz 58 [(0, vr p), (1, vr a), (2, vi i)] []
          refine go_goto (tgt := 65) X d_People_takeApart_58 rfl ?_
          refine go_vret X d_People_takeApart_65 rfl (by omega) (by omega) ?_
          have hlw : lwl t (dB t V B N Pb b0 e0) (dN t V B N Pb b0 e0) Lw ((dV t V B N Pb b0 e0) 5) = W1 := it_fin (lws t (dB t V B N Pb b0 e0) (dN t V B N Pb b0 e0)) hp (by omega)
          rw [hlw]
          rw [show tkV (dV t V B N Pb b0 e0) W1 (dP t V B N Pb b0 e0) = ao1 (dV t V B N Pb b0 e0) W1 ((dV t V B N Pb b0 e0) 5) from if_pos hq2]
          exact ⟨rfl, rfl, rfl, hpl3, fun z hz => (f3 z hz).trans (hfr z hz)⟩
      · skip
        refine go_aload_n X d_People_takeApart_15 rfl rfl ?_
        refine go_get (v := vr (p + 3)) X f_People_18 h.1.1 rfl d_People_takeApart_16 (s_varr (hpl.1.2.2.2.2.2.2.2.1) (by omega)) ?_
        refine go_iload_n X d_People_takeApart_19 rfl rfl ?_
        refine go_aload_n X d_People_takeApart_20 rfl rfl ?_
        refine go_aload_n X d_People_takeApart_21 rfl rfl ?_
        refine go_get (v := vr (p + 1)) X f_People_9 h.1.1 rfl d_People_takeApart_22 (s_varr (hpl.1.2.2.2.2.2.1) (by omega)) ?_
        refine go_iload_n X d_People_takeApart_25 rfl rfl ?_
        refine go_iald X h.1.2.1 (by omega) (by omega) d_People_takeApart_26 ?_
        refine go_top (v' := vi ((dB t V B N Pb b0 e0) i)) X (by rw [hpl.2.2.1]) ?_
        refine go_aload_n X d_People_takeApart_27 rfl rfl ?_
        refine go_get (v := vr (p + 2)) X f_People_15 h.1.1 rfl d_People_takeApart_28 (s_varr (hpl.1.2.2.2.2.2.2.1) (by omega)) ?_
        refine go_iload_n X d_People_takeApart_31 rfl rfl ?_
        refine go_iald X h.1.2.2.1 (by omega) (by omega) d_People_takeApart_32 ?_
        refine go_top (v' := vi ((dN t V B N Pb b0 e0) i)) X (by rw [hpl.2.2.2.1]) ?_
        have okb := ok3 i (by omega) (by omega)
        refine go_cSf (st2 := [vi (flo t ((dN t V B N Pb b0 e0) i - (dB t V B N Pb b0 e0) i).toNat ((dB t V B N Pb b0 e0) i) 0), vi i, vr (p + 3)]) (r := [vi i, vr (p + 3)]) X k_People_65 (c_People_firstLetterOutside l D hta (b := (dB t V B N Pb b0 e0) i) (e := (dN t V B N Pb b0 e0) i) (by omega) (by omega)) rfl rfl (by omega) (Nat.le_of_ble_eq_true rfl) d_People_takeApart_33 (by omega) (by omega) rfl ?_
        have hfr9 := flo_rng hch ((dN t V B N Pb b0 e0) i - (dB t V B N Pb b0 e0) i).toNat ((dB t V B N Pb b0 e0) i) 0
        refine go_cSf (st2 := [vi (s_b (p_sml (flo t ((dN t V B N Pb b0 e0) i - (dB t V B N Pb b0 e0) i).toNat ((dB t V B N Pb b0 e0) i) 0))), vi i, vr (p + 3)]) (r := [vi i, vr (p + 3)]) X k_People_69 (c_isSmall l D (by omega)) rfl rfl (by omega) (Nat.le_of_ble_eq_true rfl) d_People_takeApart_36 (by omega) (by omega) rfl ?_
        refine go_zast X h.1.2.2.2.1 (by omega) (by omega) (s_b_nar _) d_People_takeApart_39 ?_
        generalize hM4 : m_s Mx (p + 3) i (s_b (p_sml (flo t ((dN t V B N Pb b0 e0) i - (dB t V B N Pb b0 e0) i).toNat ((dB t V B N Pb b0 e0) i) 0))) = M3
        have pe12 : pev sh M3 p := by rw [← hM4]; exact hpl.1.off (m_s_a (by omega))
        have rw5 : M3 p = (dV t V B N Pb b0 e0) := by rw [← hM4]; exact (m_s_a (of_ne1 (by decide))).trans hpl.2.1
        have rw6 : M3 (p + 1) = (dB t V B N Pb b0 e0) := by rw [← hM4]; exact (m_s_a (of_ne (by decide))).trans hpl.2.2.1
        have rw7 : M3 (p + 2) = (dN t V B N Pb b0 e0) := by rw [← hM4]; exact (m_s_a (of_ne (by decide))).trans hpl.2.2.2.1
        have rw8 : M3 (p + 3) = rset W1 i (s_b (p_sml (flo t ((dN t V B N Pb b0 e0) i - (dB t V B N Pb b0 e0) i).toNat ((dB t V B N Pb b0 e0) i) 0))) := by rw [← hM4]; exact row_set hpl.2.2.2.2.1
        have rw9 : M3 (p + 4) = (dP t V B N Pb b0 e0) := by rw [← hM4]; exact (m_s_a (of_ne (by decide))).trans hpl.2.2.2.2.2
        have pd10 : tv sh M3 a K t := by rw [← hM4]; exact hta.mv (as_set (by omega))
        have fr11 : fr (fun z => p ≤ z ∧ z ≤ p + 4) M M3 := fun z hz => by
          have hz1 : ¬ (p ≤ z ∧ z ≤ p + 4) := hz
          rw [← hM4]; exact (m_s_a (by omega)).trans (hfr z hz)
        clear hM4
        have hpl9 : ppl sh M3 p (dV t V B N Pb b0 e0) (dB t V B N Pb b0 e0) (dN t V B N Pb b0 e0) (rset W1 i (s_b (p_sml (flo t ((dN t V B N Pb b0 e0) i - (dB t V B N Pb b0 e0) i).toNat ((dB t V B N Pb b0 e0) i) 0)))) (dP t V B N Pb b0 e0) := ⟨pe12, rw5, rw6, rw7, rw8, rw9⟩
        have hWr9 : ∀ j, 0 ≤ (rset W1 i (s_b (p_sml (flo t ((dN t V B N Pb b0 e0) i - (dB t V B N Pb b0 e0) i).toNat ((dB t V B N Pb b0 e0) i) 0)))) j ∧ (rset W1 i (s_b (p_sml (flo t ((dN t V B N Pb b0 e0) i - (dB t V B N Pb b0 e0) i).toNat ((dB t V B N Pb b0 e0) i) 0)))) j ≤ 1 := fun j => by
          unfold rset
          split
          · exact s_b_r _
          · exact hWr j
        have hn := it_nxt (lws t (dB t V B N Pb b0 e0) (dN t V B N Pb b0 e0)) hp (by omega) rfl
        refine go_iinc (v := 1) (x := i) (lv' := [(2, vi (i + 1)), (0, vr p), (1, vr a)]) X d_People_takeApart_40 rfl (by decide) rfl ?_
        refine go_goto (tgt := 7) X d_People_takeApart_43 rfl ?_
        refine go_lv (lv' := [(0, vr p), (1, vr a), (2, vi (i + 1))]) X [1, 2, 0] rfl ?_
        exact ih_lp (i + 1) (rset W1 i (s_b (p_sml (flo t ((dN t V B N Pb b0 e0) i - (dB t V B N Pb b0 e0) i).toNat ((dB t V B N Pb b0 e0) i) 0)))) M3 (by omega) (by omega) hpl9 pd10 fr11 hWr9 hn (by omega)
  refine go_lv (lv' := [(0, vr p), (1, vr a), (2, vi 0)]) X [1, 2, 0] rfl ?_
  exact lp _ 0 Lw M1 (by omega) (by omega) hpl1 hta1 f1 hLr rfl (Nat.lt_succ_self _)
