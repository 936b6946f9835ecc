/-- the b-th name: found, where it begins, where it ends -/
def fnr (t : List Int) (b : Int) : Nat → Int → Int → Int → Int → Bool × Int × Int
  | 0, _, c, _, bg => (decide (c = b ∧ 0 < b), bg, (t.length : Int))
  | m + 1, i, c, v, bg => if p_lev v (tg t i) = 0 ∧ isand t i = true then (if c = b then (true, bg, i) else fnr t b m (i + 1) (c + 1) (p_lev v (tg t i)) (i + 4)) else fnr t b m (i + 1) c (p_lev v (tg t i)) bg
def fnm (t : List Int) (b : Int) : Bool × Int × Int := fnr t b ((t.length : Int) - 0).toNat 0 (if allT p_bl t = true then 0 else 1) 0 0
theorem fnr_s {t : List Int} {b i c v bg : Int} (h : i < t.length) : fnr t b ((t.length : Int) - i).toNat i c v bg = if p_lev v (tg t i) = 0 ∧ isand t i = true then (if c = b then (true, bg, i) else fnr t b ((t.length : Int) - (i + 1)).toNat (i + 1) (c + 1) (p_lev v (tg t i)) (i + 4)) else fnr t b ((t.length : Int) - (i + 1)).toNat (i + 1) c (p_lev v (tg t i)) bg := by
  rw [show ((t.length : Int) - i).toNat = ((t.length : Int) - (i + 1)).toNat + 1 by omega]
  rfl
theorem fnr_e {t : List Int} {b i c v bg : Int} (h : (t.length : Int) ≤ i) : fnr t b ((t.length : Int) - i).toNat i c v bg = (decide (c = b ∧ 0 < b), bg, (t.length : Int)) := by
  rw [show ((t.length : Int) - i).toNat = 0 by omega]
  rfl
/-- the first and the last low word below an end -/
def low1 (W : Int → Int) : Nat → Int → Int
  | 0, _ => -1
  | m + 1, i => if W i = 0 then low1 W m (i + 1) else i
def low2 (W : Int → Int) : Nat → Int
  | 0 => -1
  | m + 1 => if W m = 0 then low2 W m else m
set_option maxHeartbeats 4000000 in
set_option maxRecDepth 100000 in
theorem c_People_findName (l : Launch) (D : va_G) {sh : s_S} {M : s_M} {sz p a : Int} {N : Nat} {t : List Int} (h : tv sh M a N t) (hp1 : sh p = some (.inl (7, ts_People))) (hp0 : 0 ≤ p ∧ p < a) {b : Int} (hb : -2147483648 ≤ b ∧ b < 2147483648) : Sp l D y_People_findName prog_7_method_4_code 6 (some .boolean) 3 0 0 [vr p, vr a, vi b] sh M sz (fun v' sh' M' sz' => v' = some (vi (s_b (fnm t b).1)) ∧ sh' = sh ∧ sz' = sz ∧ M' p 0 = (fnm t b).2.1 ∧ M' p 1 = (fnm t b).2.2 ∧ (∀ j : Int, j ≠ 0 → j ≠ 1 → M' p j = M p j) ∧ fr (fun z => z = p) M M') := by
  have hch := h.rng
  have hln := h.len
  refine Sp.ofGo (own := "CiteForge$People") (nm := "findName") (by decide) rfl rfl (Nat.le_of_ble_eq_true rfl) (lv := [(0, vr p), (1, vr a), (2, vi b)]) rfl ?_
  intro g X
  refine go_aload_n X d_People_findName_0 rfl rfl ?_
  refine go_iconst (v := 0) X d_People_findName_1 ?_
  refine go_put (x := 0) (v := vi 0) X f_People_51 hp1 rfl d_People_findName_2 rfl rfl rfl ?_
  generalize hM2 : m_s M p 0 0 = M1
  have e3 : M1 p 0 = 0 := by rw [← hM2, m_s_s]
  have tv4 := h.kept (M' := M1) (by rw [← hM2]; exact m_s_a (by omega)) (by rw [← hM2]; exact m_s_a (by omega))
  have fr5 : fr (fun z => z = p) M M1 := fun z hz => by
    have hz1 : ¬ (z = p) := hz
    rw [← hM2]; exact (m_s_a (by omega))
  refine go_aload_n X d_People_findName_5 rfl rfl ?_
  refine go_cVf (st2 := [vi (s_b (allT p_bl t))]) (r := []) X k_People_25 (c_Text_isBlankAlone l D tv4) h.1.1 rfl rfl (by omega) (Nat.le_of_ble_eq_true rfl) d_People_findName_6 (by omega) (by omega) rfl ?_
  refine go_ifb_eq (tgt := 16) X d_People_findName_9 rfl (fun hq6 => ?_) (fun hq6 => ?_)
  · skip
    refine go_iconst (v := 1) X d_People_findName_16 ?_
    refine go_istore_n (lv' := [(3, vi 1), (0, vr p), (1, vr a), (2, vi b)]) X d_People_findName_17 rfl (by decide) rfl ?_
    refine go_iconst (v := 0) X d_People_findName_18 ?_
    refine go_istore (lv' := [(4, vi 0), (3, vi 1), (0, vr p), (1, vr a), (2, vi b)]) X d_People_findName_19 (by decide) rfl ?_
    refine go_iconst (v := 0) X d_People_findName_21 ?_
    refine go_istore (lv' := [(5, vi 0), (4, vi 0), (3, vi 1), (0, vr p), (1, vr a), (2, vi b)]) X d_People_findName_22 (by decide) rfl ?_
    have hc0 : (if allT p_bl t = true then (0 : Int) else 1) = 1 := if_neg (by rw [hq6]; decide)
    have kp0 : ∀ j : Int, j ≠ 0 → j ≠ 1 → M1 p j = M p j := fun j q1 q2 => by rw [← hM2]; exact m_s_n (fun e => q1 e.2)
    have lp : ∀ (fuel : Nat) (i : Int) (c : Int) (v : Int) (bg : Int) (Mx : s_M), (0 ≤ i) → (i ≤ t.length) → (0 ≤ c ∧ c ≤ i + 1) → (0 ≤ v ∧ v ≤ i) → (Mx p 0 = bg) → (∀ j : Int, j ≠ 0 → j ≠ 1 → Mx p j = M p j) → (tv sh Mx a N t) → (fr (fun z => z = p) M Mx) → (fnr t b ((t.length : Int) - i).toNat i c v bg = fnm t b) → ((t.length : Int) - i).toNat < fuel → Go g 0 0 sh Mx sz 24 [(0, vr p), (1, vr a), (2, vi b), (3, vi c), (4, vi v), (5, vi i)] [] := by
      intro fuel
      induction fuel with
      | zero => intro i c v bg Mx hi hi2 hc hv hbg hkp htx hfr hp hm_lp; exact absurd hm_lp (Nat.not_lt_zero _)
      | succ fuel ih_lp =>
        intro i c v bg Mx hi hi2 hc hv hbg hkp htx hfr hp hm_lp
        refine go_iload X d_People_findName_24 rfl ?_
        refine go_aload_n X d_People_findName_26 rfl rfl ?_
        refine go_cVf (st2 := [vi (t.length : Int), vi i]) (r := [vi i]) X k_People_31 (k_Text_size l D htx) h.1.1 rfl rfl (by omega) (Nat.le_of_ble_eq_true rfl) d_People_findName_27 (by omega) (by omega) rfl ?_
        refine go_icmp_ge (tgt := 90) X d_People_findName_30 rfl (by omega) (by omega) (fun hq7 => ?_) (fun hq7 => ?_)
        · skip
          refine go_aload_n X d_People_findName_90 rfl rfl ?_
          refine go_aload_n X d_People_findName_91 rfl rfl ?_
          refine go_cVf (st2 := [vi (t.length : Int), vr p]) (r := [vr p]) X k_People_31 (k_Text_size l D htx) h.1.1 rfl rfl (by omega) (Nat.le_of_ble_eq_true rfl) d_People_findName_92 (by omega) (by omega) rfl ?_
          refine go_put (x := (t.length : Int)) (v := vi (t.length : Int)) X f_People_55 hp1 rfl d_People_findName_95 rfl rfl rfl ?_
          generalize hM9 : m_s Mx p 1 (t.length : Int) = M8
          have e10 : M8 p 0 = bg := by rw [← hM9]; exact (m_s_n (fun q => absurd q.2 (by decide))).trans hbg
          have e11 : M8 p 1 = (t.length : Int) := by rw [← hM9, m_s_s]
          have tv12 := htx.kept (M' := M8) (by rw [← hM9]; exact m_s_a (by omega)) (by rw [← hM9]; exact m_s_a (by omega))
          have fr13 : fr (fun z => z = p) M M8 := fun z hz => by
            have hz1 : ¬ (z = p) := hz
            rw [← hM9]; exact (m_s_a (by omega)).trans (hfr z hz)
          refine go_iload_n X d_People_findName_98 rfl rfl ?_
          refine go_iload_n X d_People_findName_99 rfl rfl ?_
          refine go_icmp_ne (tgt := 111) X d_People_findName_100 rfl (by omega) (by omega) (fun hq14 => ?_) (fun hq14 => ?_)
          · skip
            refine go_iconst (v := 0) X d_People_findName_111 ?_
            refine go_iret X d_People_findName_112 rfl ?_ (by omega) (by omega) ?_
            · rfl
            have kp2 : ∀ j : Int, j ≠ 0 → j ≠ 1 → M8 p j = M p j := fun j q1 q2 => by rw [← hM9]; exact (m_s_n (fun e => q2 e.2)).trans (hkp j q1 q2)
            rw [fnr_e (by omega), show decide (c = b ∧ 0 < b) = false from decide_eq_false (by omega)] at hp
            rw [← hp]
            exact ⟨rfl, rfl, rfl, e10, e11, kp2, fr13⟩
          · skip
            refine go_iload_n X d_People_findName_103 rfl rfl ?_
            refine go_if_le (tgt := 111) X d_People_findName_104 rfl (by omega) (fun hq15 => ?_) (fun hq15 => ?_)
            · skip
              refine go_iconst (v := 0) X d_People_findName_111 ?_
              refine go_iret X d_People_findName_112 rfl ?_ (by omega) (by omega) ?_
              · rfl
              have kp2 : ∀ j : Int, j ≠ 0 → j ≠ 1 → M8 p j = M p j := fun j q1 q2 => by rw [← hM9]; exact (m_s_n (fun e => q2 e.2)).trans (hkp j q1 q2)
              rw [fnr_e (by omega), show decide (c = b ∧ 0 < b) = false from decide_eq_false (by omega)] at hp
              rw [← hp]
              exact ⟨rfl, rfl, rfl, e10, e11, kp2, fr13⟩
            · skip
              refine go_iconst (v := 1) X d_People_findName_107 ?_
              refine go_goto (tgt := 112) X d_People_findName_108 rfl ?_
              refine go_iret X d_People_findName_112 rfl ?_ (by omega) (by omega) ?_
              · rfl
              have kp2 : ∀ j : Int, j ≠ 0 → j ≠ 1 → M8 p j = M p j := fun j q1 q2 => by rw [← hM9]; exact (m_s_n (fun e => q2 e.2)).trans (hkp j q1 q2)
              rw [fnr_e (by omega), show decide (c = b ∧ 0 < b) = true from decide_eq_true (by omega)] at hp
              rw [← hp]
              exact ⟨rfl, rfl, rfl, e10, e11, kp2, fr13⟩
        · skip
          refine go_iload X d_People_findName_33 rfl ?_
          refine go_aload_n X d_People_findName_35 rfl rfl ?_
          refine go_iload X d_People_findName_36 rfl ?_
          refine go_cVf (st2 := [vi (tg t i), vi v]) (r := [vi v]) X k_People_35 (k_Text_at l D htx (by omega)) h.1.1 rfl rfl (by omega) (Nat.le_of_ble_eq_true rfl) d_People_findName_38 (by omega) (by omega) rfl ?_
          have hr0 := hch i
          refine go_cSf (st2 := [vi (p_lev v (tg t i))]) (r := []) X k_People_39 (c_levelBehind l D (by omega) (by omega)) rfl rfl (by omega) (Nat.le_of_ble_eq_true rfl) d_People_findName_41 (by omega) (by omega) rfl ?_
          have hlv := p_lev_rng (c := tg t i) hv
          refine go_istore (lv' := [(4, vi (p_lev v (tg t i))), (0, vr p), (1, vr a), (2, vi b), (3, vi c), (5, vi i)]) X d_People_findName_44 (by decide) rfl ?_
          refine go_iload X d_People_findName_46 rfl ?_
          refine go_if_ne (tgt := 84) X d_People_findName_48 rfl (by omega) (fun hq16 => ?_) (fun hq16 => ?_)
          · skip
            have hn := hp
            rw [fnr_s (by omega), if_neg (fun q => hq16 q.1)] at hn
            refine go_iinc (v := 1) (x := i) (lv' := [(5, vi (i + 1)), (4, vi (p_lev v (tg t i))), (0, vr p), (1, vr a), (2, vi b), (3, vi c)]) X d_People_findName_84 rfl (by decide) rfl ?_
            refine go_goto (tgt := 24) X d_People_findName_87 rfl ?_
            refine go_lv (lv' := [(0, vr p), (1, vr a), (2, vi b), (3, vi c), (4, vi (p_lev v (tg t i))), (5, vi (i + 1))]) X [2, 3, 4, 5, 1, 0] rfl ?_
            exact ih_lp (i + 1) c (p_lev v (tg t i)) bg Mx (by omega) (by omega) (by omega) hlv hbg hkp htx hfr hn (by omega)
          · skip
            refine go_aload_n X d_People_findName_51 rfl rfl ?_
            refine go_iload X d_People_findName_52 rfl ?_
            refine go_cSf (st2 := [vi (s_b (isand t i))]) (r := []) X k_People_43 (c_People_isAnd l D htx (by omega)) rfl rfl (by omega) (Nat.le_of_ble_eq_true rfl) d_People_findName_54 (by omega) (by omega) rfl ?_
            refine go_ifb_eq (tgt := 84) X d_People_findName_57 rfl (fun hq17 => ?_) (fun hq17 => ?_)
            · skip
              have hn := hp
              rw [fnr_s (by omega), if_neg (fun q => by rw [hq17] at q; exact absurd q.2 (by decide))] at hn
              refine go_iinc (v := 1) (x := i) (lv' := [(5, vi (i + 1)), (4, vi (p_lev v (tg t i))), (0, vr p), (1, vr a), (2, vi b), (3, vi c)]) X d_People_findName_84 rfl (by decide) rfl ?_
              refine go_goto (tgt := 24) X d_People_findName_87 rfl ?_
              refine go_lv (lv' := [(0, vr p), (1, vr a), (2, vi b), (3, vi c), (4, vi (p_lev v (tg t i))), (5, vi (i + 1))]) X [2, 3, 4, 5, 1, 0] rfl ?_
              exact ih_lp (i + 1) c (p_lev v (tg t i)) bg Mx (by omega) (by omega) (by omega) hlv hbg hkp htx hfr hn (by omega)
            · skip
              refine go_iload_n X d_People_findName_60 rfl rfl ?_
              refine go_iload_n X d_People_findName_61 rfl rfl ?_
              refine go_icmp_ne (tgt := 73) X d_People_findName_62 rfl (by omega) (by omega) (fun hq18 => ?_) (fun hq18 => ?_)
              · skip
                refine go_iinc (v := 1) (x := c) (lv' := [(3, vi (c + 1)), (4, vi (p_lev v (tg t i))), (0, vr p), (1, vr a), (2, vi b), (5, vi i)]) X d_People_findName_73 rfl (by decide) rfl ?_
                refine go_aload_n X d_People_findName_76 rfl rfl ?_
                refine go_iload X d_People_findName_77 rfl ?_
                refine go_iconst (v := 4) X d_People_findName_79 ?_
                refine go_iadd X d_People_findName_80 ?_
                refine go_put (x := (i + 4)) (v := vi (i + 4)) X f_People_51 hp1 rfl d_People_findName_81 rfl rfl rfl ?_
                generalize hM20 : m_s Mx p 0 (i + 4) = M19
                have e21 : M19 p 0 = i + 4 := by rw [← hM20, m_s_s]
                have tv22 := htx.kept (M' := M19) (by rw [← hM20]; exact m_s_a (by omega)) (by rw [← hM20]; exact m_s_a (by omega))
                have fr23 : fr (fun z => z = p) M M19 := fun z hz => by
                  have hz1 : ¬ (z = p) := hz
                  rw [← hM20]; exact (m_s_a (by omega)).trans (hfr z hz)
                have hn := hp
                rw [fnr_s (by omega), if_pos ⟨hq16, hq17⟩, if_neg hq18] at hn
                have kp1 : ∀ j : Int, j ≠ 0 → j ≠ 1 → M19 p j = M p j := fun j q1 q2 => by rw [← hM20]; exact (m_s_n (fun e => q1 e.2)).trans (hkp j q1 q2)
                refine go_iinc (v := 1) (x := i) (lv' := [(5, vi (i + 1)), (3, vi (c + 1)), (4, vi (p_lev v (tg t i))), (0, vr p), (1, vr a), (2, vi b)]) X d_People_findName_84 rfl (by decide) rfl ?_
                refine go_goto (tgt := 24) X d_People_findName_87 rfl ?_
                refine go_lv (lv' := [(0, vr p), (1, vr a), (2, vi b), (3, vi (c + 1)), (4, vi (p_lev v (tg t i))), (5, vi (i + 1))]) X [3, 4, 5, 1, 2, 0] rfl ?_
                exact ih_lp (i + 1) (c + 1) (p_lev v (tg t i)) (i + 4) M19 (by omega) (by omega) (by omega) hlv e21 kp1 tv22 fr23 hn (by omega)
              · skip
                refine go_aload_n X d_People_findName_65 rfl rfl ?_
                refine go_iload X d_People_findName_66 rfl ?_
                refine go_put (x := i) (v := vi i) X f_People_55 hp1 rfl d_People_findName_68 rfl rfl rfl ?_
                generalize hM25 : m_s Mx p 1 i = M24
                have e26 : M24 p 0 = bg := by rw [← hM25]; exact (m_s_n (fun q => absurd q.2 (by decide))).trans hbg
                have e27 : M24 p 1 = i := by rw [← hM25, m_s_s]
                have tv28 := htx.kept (M' := M24) (by rw [← hM25]; exact m_s_a (by omega)) (by rw [← hM25]; exact m_s_a (by omega))
                have fr29 : fr (fun z => z = p) M M24 := fun z hz => by
                  have hz1 : ¬ (z = p) := hz
                  rw [← hM25]; exact (m_s_a (by omega)).trans (hfr z hz)
                refine go_iconst (v := 1) X d_People_findName_71 ?_
                refine go_iret X d_People_findName_72 rfl ?_ (by omega) (by omega) ?_
                · rfl
                have kp2 : ∀ j : Int, j ≠ 0 → j ≠ 1 → M24 p j = M p j := fun j q1 q2 => by rw [← hM25]; exact (m_s_n (fun e => q2 e.2)).trans (hkp j q1 q2)
                rw [fnr_s (by omega), if_pos ⟨hq16, hq17⟩, if_pos hq18] at hp
                rw [← hp]
                exact ⟨rfl, rfl, rfl, e26, e27, kp2, fr29⟩
    refine go_lv (lv' := [(0, vr p), (1, vr a), (2, vi b), (3, vi 1), (4, vi 0), (5, vi 0)]) X [3, 4, 5, 2, 1, 0] rfl ?_
    exact lp _ 0 1 0 0 M1 (by omega) (by omega) (by omega) (by omega) e3 kp0 tv4 fr5 (by unfold fnm; rw [hc0]) (Nat.lt_succ_self _)
  · skip
    refine go_iconst (v := 0) X d_People_findName_12 ?_
    refine go_goto (tgt := 17) X d_People_findName_13 rfl ?_
    refine go_istore_n (lv' := [(3, vi 0), (0, vr p), (1, vr a), (2, vi b)]) X d_People_findName_17 rfl (by decide) rfl ?_
    refine go_iconst (v := 0) X d_People_findName_18 ?_
    refine go_istore (lv' := [(4, vi 0), (3, vi 0), (0, vr p), (1, vr a), (2, vi b)]) X d_People_findName_19 (by decide) rfl ?_
    refine go_iconst (v := 0) X d_People_findName_21 ?_
    refine go_istore (lv' := [(5, vi 0), (4, vi 0), (3, vi 0), (0, vr p), (1, vr a), (2, vi b)]) X d_People_findName_22 (by decide) rfl ?_
    have hc0 : (if allT p_bl t = true then (0 : Int) else 1) = 0 := if_pos hq6
    have kp0 : ∀ j : Int, j ≠ 0 → j ≠ 1 → M1 p j = M p j := fun j q1 q2 => by rw [← hM2]; exact m_s_n (fun e => q1 e.2)
    have lp : ∀ (fuel : Nat) (i : Int) (c : Int) (v : Int) (bg : Int) (Mx : s_M), (0 ≤ i) → (i ≤ t.length) → (0 ≤ c ∧ c ≤ i + 1) → (0 ≤ v ∧ v ≤ i) → (Mx p 0 = bg) → (∀ j : Int, j ≠ 0 → j ≠ 1 → Mx p j = M p j) → (tv sh Mx a N t) → (fr (fun z => z = p) M Mx) → (fnr t b ((t.length : Int) - i).toNat i c v bg = fnm t b) → ((t.length : Int) - i).toNat < fuel → Go g 0 0 sh Mx sz 24 [(0, vr p), (1, vr a), (2, vi b), (3, vi c), (4, vi v), (5, vi i)] [] := by
      intro fuel
      induction fuel with
      | zero => intro i c v bg Mx hi hi2 hc hv hbg hkp htx hfr hp hm_lp; exact absurd hm_lp (Nat.not_lt_zero _)
      | succ fuel ih_lp =>
        intro i c v bg Mx hi hi2 hc hv hbg hkp htx hfr hp hm_lp
        refine go_iload X d_People_findName_24 rfl ?_
        refine go_aload_n X d_People_findName_26 rfl rfl ?_
        refine go_cVf (st2 := [vi (t.length : Int), vi i]) (r := [vi i]) X k_People_31 (k_Text_size l D htx) h.1.1 rfl rfl (by omega) (Nat.le_of_ble_eq_true rfl) d_People_findName_27 (by omega) (by omega) rfl ?_
        refine go_icmp_ge (tgt := 90) X d_People_findName_30 rfl (by omega) (by omega) (fun hq30 => ?_) (fun hq30 => ?_)
        · skip
          refine go_aload_n X d_People_findName_90 rfl rfl ?_
          refine go_aload_n X d_People_findName_91 rfl rfl ?_
          refine go_cVf (st2 := [vi (t.length : Int), vr p]) (r := [vr p]) X k_People_31 (k_Text_size l D htx) h.1.1 rfl rfl (by omega) (Nat.le_of_ble_eq_true rfl) d_People_findName_92 (by omega) (by omega) rfl ?_
          refine go_put (x := (t.length : Int)) (v := vi (t.length : Int)) X f_People_55 hp1 rfl d_People_findName_95 rfl rfl rfl ?_
          generalize hM32 : m_s Mx p 1 (t.length : Int) = M31
          have e33 : M31 p 0 = bg := by rw [← hM32]; exact (m_s_n (fun q => absurd q.2 (by decide))).trans hbg
          have e34 : M31 p 1 = (t.length : Int) := by rw [← hM32, m_s_s]
          have tv35 := htx.kept (M' := M31) (by rw [← hM32]; exact m_s_a (by omega)) (by rw [← hM32]; exact m_s_a (by omega))
          have fr36 : fr (fun z => z = p) M M31 := fun z hz => by
            have hz1 : ¬ (z = p) := hz
            rw [← hM32]; exact (m_s_a (by omega)).trans (hfr z hz)
          refine go_iload_n X d_People_findName_98 rfl rfl ?_
          refine go_iload_n X d_People_findName_99 rfl rfl ?_
          refine go_icmp_ne (tgt := 111) X d_People_findName_100 rfl (by omega) (by omega) (fun hq37 => ?_) (fun hq37 => ?_)
          · skip
            refine go_iconst (v := 0) X d_People_findName_111 ?_
            refine go_iret X d_People_findName_112 rfl ?_ (by omega) (by omega) ?_
            · rfl
            have kp2 : ∀ j : Int, j ≠ 0 → j ≠ 1 → M31 p j = M p j := fun j q1 q2 => by rw [← hM32]; exact (m_s_n (fun e => q2 e.2)).trans (hkp j q1 q2)
            rw [fnr_e (by omega), show decide (c = b ∧ 0 < b) = false from decide_eq_false (by omega)] at hp
            rw [← hp]
            exact ⟨rfl, rfl, rfl, e33, e34, kp2, fr36⟩
          · skip
            refine go_iload_n X d_People_findName_103 rfl rfl ?_
            refine go_if_le (tgt := 111) X d_People_findName_104 rfl (by omega) (fun hq38 => ?_) (fun hq38 => ?_)
            · skip
              refine go_iconst (v := 0) X d_People_findName_111 ?_
              refine go_iret X d_People_findName_112 rfl ?_ (by omega) (by omega) ?_
              · rfl
              have kp2 : ∀ j : Int, j ≠ 0 → j ≠ 1 → M31 p j = M p j := fun j q1 q2 => by rw [← hM32]; exact (m_s_n (fun e => q2 e.2)).trans (hkp j q1 q2)
              rw [fnr_e (by omega), show decide (c = b ∧ 0 < b) = false from decide_eq_false (by omega)] at hp
              rw [← hp]
              exact ⟨rfl, rfl, rfl, e33, e34, kp2, fr36⟩
            · skip
              refine go_iconst (v := 1) X d_People_findName_107 ?_
              refine go_goto (tgt := 112) X d_People_findName_108 rfl ?_
              refine go_iret X d_People_findName_112 rfl ?_ (by omega) (by omega) ?_
              · rfl
              have kp2 : ∀ j : Int, j ≠ 0 → j ≠ 1 → M31 p j = M p j := fun j q1 q2 => by rw [← hM32]; exact (m_s_n (fun e => q2 e.2)).trans (hkp j q1 q2)
              rw [fnr_e (by omega), show decide (c = b ∧ 0 < b) = true from decide_eq_true (by omega)] at hp
              rw [← hp]
              exact ⟨rfl, rfl, rfl, e33, e34, kp2, fr36⟩
        · skip
          refine go_iload X d_People_findName_33 rfl ?_
          refine go_aload_n X d_People_findName_35 rfl rfl ?_
          refine go_iload X d_People_findName_36 rfl ?_
          refine go_cVf (st2 := [vi (tg t i), vi v]) (r := [vi v]) X k_People_35 (k_Text_at l D htx (by omega)) h.1.1 rfl rfl (by omega) (Nat.le_of_ble_eq_true rfl) d_People_findName_38 (by omega) (by omega) rfl ?_
          have hr0 := hch i
          refine go_cSf (st2 := [vi (p_lev v (tg t i))]) (r := []) X k_People_39 (c_levelBehind l D (by omega) (by omega)) rfl rfl (by omega) (Nat.le_of_ble_eq_true rfl) d_People_findName_41 (by omega) (by omega) rfl ?_
          have hlv := p_lev_rng (c := tg t i) hv
          refine go_istore (lv' := [(4, vi (p_lev v (tg t i))), (0, vr p), (1, vr a), (2, vi b), (3, vi c), (5, vi i)]) X d_People_findName_44 (by decide) rfl ?_
          refine go_iload X d_People_findName_46 rfl ?_
          refine go_if_ne (tgt := 84) X d_People_findName_48 rfl (by omega) (fun hq39 => ?_) (fun hq39 => ?_)
          · skip
            have hn := hp
            rw [fnr_s (by omega), if_neg (fun q => hq39 q.1)] at hn
            refine go_iinc (v := 1) (x := i) (lv' := [(5, vi (i + 1)), (4, vi (p_lev v (tg t i))), (0, vr p), (1, vr a), (2, vi b), (3, vi c)]) X d_People_findName_84 rfl (by decide) rfl ?_
            refine go_goto (tgt := 24) X d_People_findName_87 rfl ?_
            refine go_lv (lv' := [(0, vr p), (1, vr a), (2, vi b), (3, vi c), (4, vi (p_lev v (tg t i))), (5, vi (i + 1))]) X [2, 3, 4, 5, 1, 0] rfl ?_
            exact ih_lp (i + 1) c (p_lev v (tg t i)) bg Mx (by omega) (by omega) (by omega) hlv hbg hkp htx hfr hn (by omega)
          · skip
            refine go_aload_n X d_People_findName_51 rfl rfl ?_
            refine go_iload X d_People_findName_52 rfl ?_
            refine go_cSf (st2 := [vi (s_b (isand t i))]) (r := []) X k_People_43 (c_People_isAnd l D htx (by omega)) rfl rfl (by omega) (Nat.le_of_ble_eq_true rfl) d_People_findName_54 (by omega) (by omega) rfl ?_
            refine go_ifb_eq (tgt := 84) X d_People_findName_57 rfl (fun hq40 => ?_) (fun hq40 => ?_)
            · skip
              have hn := hp
              rw [fnr_s (by omega), if_neg (fun q => by rw [hq40] at q; exact absurd q.2 (by decide))] at hn
              refine go_iinc (v := 1) (x := i) (lv' := [(5, vi (i + 1)), (4, vi (p_lev v (tg t i))), (0, vr p), (1, vr a), (2, vi b), (3, vi c)]) X d_People_findName_84 rfl (by decide) rfl ?_
              refine go_goto (tgt := 24) X d_People_findName_87 rfl ?_
              refine go_lv (lv' := [(0, vr p), (1, vr a), (2, vi b), (3, vi c), (4, vi (p_lev v (tg t i))), (5, vi (i + 1))]) X [2, 3, 4, 5, 1, 0] rfl ?_
              exact ih_lp (i + 1) c (p_lev v (tg t i)) bg Mx (by omega) (by omega) (by omega) hlv hbg hkp htx hfr hn (by omega)
            · skip
              refine go_iload_n X d_People_findName_60 rfl rfl ?_
              refine go_iload_n X d_People_findName_61 rfl rfl ?_
              refine go_icmp_ne (tgt := 73) X d_People_findName_62 rfl (by omega) (by omega) (fun hq41 => ?_) (fun hq41 => ?_)
              · skip
                refine go_iinc (v := 1) (x := c) (lv' := [(3, vi (c + 1)), (4, vi (p_lev v (tg t i))), (0, vr p), (1, vr a), (2, vi b), (5, vi i)]) X d_People_findName_73 rfl (by decide) rfl ?_
                refine go_aload_n X d_People_findName_76 rfl rfl ?_
                refine go_iload X d_People_findName_77 rfl ?_
                refine go_iconst (v := 4) X d_People_findName_79 ?_
                refine go_iadd X d_People_findName_80 ?_
                refine go_put (x := (i + 4)) (v := vi (i + 4)) X f_People_51 hp1 rfl d_People_findName_81 rfl rfl rfl ?_
                generalize hM43 : m_s Mx p 0 (i + 4) = M42
                have e44 : M42 p 0 = i + 4 := by rw [← hM43, m_s_s]
                have tv45 := htx.kept (M' := M42) (by rw [← hM43]; exact m_s_a (by omega)) (by rw [← hM43]; exact m_s_a (by omega))
                have fr46 : fr (fun z => z = p) M M42 := fun z hz => by
                  have hz1 : ¬ (z = p) := hz
                  rw [← hM43]; exact (m_s_a (by omega)).trans (hfr z hz)
                have hn := hp
                rw [fnr_s (by omega), if_pos ⟨hq39, hq40⟩, if_neg hq41] at hn
                have kp1 : ∀ j : Int, j ≠ 0 → j ≠ 1 → M42 p j = M p j := fun j q1 q2 => by rw [← hM43]; exact (m_s_n (fun e => q1 e.2)).trans (hkp j q1 q2)
                refine go_iinc (v := 1) (x := i) (lv' := [(5, vi (i + 1)), (3, vi (c + 1)), (4, vi (p_lev v (tg t i))), (0, vr p), (1, vr a), (2, vi b)]) X d_People_findName_84 rfl (by decide) rfl ?_
                refine go_goto (tgt := 24) X d_People_findName_87 rfl ?_
                refine go_lv (lv' := [(0, vr p), (1, vr a), (2, vi b), (3, vi (c + 1)), (4, vi (p_lev v (tg t i))), (5, vi (i + 1))]) X [3, 4, 5, 1, 2, 0] rfl ?_
                exact ih_lp (i + 1) (c + 1) (p_lev v (tg t i)) (i + 4) M42 (by omega) (by omega) (by omega) hlv e44 kp1 tv45 fr46 hn (by omega)
              · skip
                refine go_aload_n X d_People_findName_65 rfl rfl ?_
                refine go_iload X d_People_findName_66 rfl ?_
                refine go_put (x := i) (v := vi i) X f_People_55 hp1 rfl d_People_findName_68 rfl rfl rfl ?_
                generalize hM48 : m_s Mx p 1 i = M47
                have e49 : M47 p 0 = bg := by rw [← hM48]; exact (m_s_n (fun q => absurd q.2 (by decide))).trans hbg
                have e50 : M47 p 1 = i := by rw [← hM48, m_s_s]
                have tv51 := htx.kept (M' := M47) (by rw [← hM48]; exact m_s_a (by omega)) (by rw [← hM48]; exact m_s_a (by omega))
                have fr52 : fr (fun z => z = p) M M47 := fun z hz => by
                  have hz1 : ¬ (z = p) := hz
                  rw [← hM48]; exact (m_s_a (by omega)).trans (hfr z hz)
                refine go_iconst (v := 1) X d_People_findName_71 ?_
                refine go_iret X d_People_findName_72 rfl ?_ (by omega) (by omega) ?_
                · rfl
                have kp2 : ∀ j : Int, j ≠ 0 → j ≠ 1 → M47 p j = M p j := fun j q1 q2 => by rw [← hM48]; exact (m_s_n (fun e => q2 e.2)).trans (hkp j q1 q2)
                rw [fnr_s (by omega), if_pos ⟨hq39, hq40⟩, if_pos hq41] at hp
                rw [← hp]
                exact ⟨rfl, rfl, rfl, e49, e50, kp2, fr52⟩
    refine go_lv (lv' := [(0, vr p), (1, vr a), (2, vi b), (3, vi 0), (4, vi 0), (5, vi 0)]) X [3, 4, 5, 2, 1, 0] rfl ?_
    exact lp _ 0 0 0 0 M1 (by omega) (by omega) (by omega) (by omega) e3 kp0 tv4 fr5 (by unfold fnm; rw [hc0]) (Nat.lt_succ_self _)
set_option maxHeartbeats 4000000 in
set_option maxRecDepth 100000 in
theorem c_People_firstLow (l : Launch) (D : va_G) {sh : s_S} {M : s_M} {sz p : Int} (h : pev sh M p) {W : Int → Int} (hW : M (p + 3) = W) (hWr : ∀ i, 0 ≤ W i ∧ W i ≤ 1) {e : Int} (he : -1000 ≤ e ∧ e ≤ 60) : Sp l D y_People_firstLow prog_7_method_10_code 3 (some .int) 1 0 0 [vr p, vi e] sh M sz (pF (some (vi (low1 W (e - 0).toNat 0))) sh M sz) := by
  have h1 := h.1
  have h4 := h.2.2.2.1
  have h8 := h.2.2.2.2.2.2.2.1
  have h10 := h.2.2.2.2.2.2.2.2.2
  refine Sp.ofGo (own := "CiteForge$People") (nm := "firstLow") (by decide) rfl rfl (Nat.le_of_ble_eq_true rfl) (lv := [(0, vr p), (1, vi e)]) rfl ?_
  intro g X
  refine go_iconst (v := 0) X d_People_firstLow_0 ?_
  refine go_istore_n (lv' := [(2, vi 0), (0, vr p), (1, vi e)]) X d_People_firstLow_1 rfl (by decide) rfl ?_
  have loop : ∀ (fuel : Nat) (i : Int), (0 ≤ i) → (i ≤ e ∨ i = 0) → (low1 W (e - i).toNat i = low1 W (e - 0).toNat 0) → (e - i).toNat < fuel → Go g 0 0 sh M sz 2 [(0, vr p), (1, vi e), (2, vi i)] [] := by
    intro fuel
    induction fuel with
    | zero => intro i hi hi2 hp hm_loop; exact absurd hm_loop (Nat.not_lt_zero _)
    | succ fuel ih_loop =>
      intro i hi hi2 hp hm_loop
      refine go_iload_n X d_People_firstLow_2 rfl rfl ?_
      refine go_iload_n X d_People_firstLow_3 rfl rfl ?_
      refine go_icmp_ge (tgt := 24) X d_People_firstLow_4 rfl (by omega) (by omega) (fun hq1 => ?_) (fun hq1 => ?_)
      · skip
        refine go_iconst (v := (-1)) X d_People_firstLow_24 ?_
        refine go_iret X d_People_firstLow_25 rfl ?_ (by omega) (by omega) ?_
        · rfl
        refine ⟨?_, rfl, rfl, rfl⟩
        rw [← hp]
        rw [show (e - i).toNat = 0 by omega]; rfl
      · skip
        refine go_aload_n X d_People_firstLow_7 rfl rfl ?_
        refine go_get (v := vr (p + 3)) X f_People_18 h1 rfl d_People_firstLow_8 (s_varr h8 (by omega)) ?_
        refine go_iload_n X d_People_firstLow_11 rfl rfl ?_
        refine go_zald X h4 (by omega) (by omega) d_People_firstLow_12 ?_
        refine go_top (v' := vi (W i)) X (by rw [hW]) ?_
        have hw0 := hWr i
        refine go_if_eq (tgt := 18) X d_People_firstLow_13 rfl (by omega) (fun hq2 => ?_) (fun hq2 => ?_)
        · skip
          have hn := hp
          rw [show (e - i).toNat = (e - (i + 1)).toNat + 1 by omega, show low1 W ((e - (i + 1)).toNat + 1) i = low1 W (e - (i + 1)).toNat (i + 1) from if_pos hq2] at hn
          refine go_iinc (v := 1) (x := i) (lv' := [(2, vi (i + 1)), (0, vr p), (1, vi e)]) X d_People_firstLow_18 rfl (by decide) rfl ?_
          refine go_goto (tgt := 2) X d_People_firstLow_21 rfl ?_
          refine go_lv (lv' := [(0, vr p), (1, vi e), (2, vi (i + 1))]) X [1, 2, 0] rfl ?_
          exact ih_loop (i + 1) (by omega) (by omega) hn (by omega)
        · skip
          refine go_iload_n X d_People_firstLow_16 rfl rfl ?_
          refine go_iret X d_People_firstLow_17 rfl ?_ (by omega) (by omega) ?_
          · rfl
          refine ⟨?_, rfl, rfl, rfl⟩
          rw [← hp]
          rw [show (e - i).toNat = (e - (i + 1)).toNat + 1 by omega, show low1 W ((e - (i + 1)).toNat + 1) i = i from if_neg hq2]
  refine go_lv (lv' := [(0, vr p), (1, vi e), (2, vi 0)]) X [1, 2, 0] rfl ?_
  exact loop _ 0 (by omega) (by omega) rfl (Nat.lt_succ_self _)
set_option maxHeartbeats 4000000 in
set_option maxRecDepth 100000 in
theorem c_People_lastLow (l : Launch) (D : va_G) {sh : s_S} {M : s_M} {sz p : Int} (h : pev sh M p) {W : Int → Int} (hW : M (p + 3) = W) (hWr : ∀ i, 0 ≤ W i ∧ W i ≤ 1) {e : Int} (he : -1000 ≤ e ∧ e ≤ 60) : Sp l D y_People_lastLow prog_7_method_11_code 3 (some .int) 1 0 0 [vr p, vi e] sh M sz (pF (some (vi (low2 W e.toNat))) sh M sz) := by
  have h1 := h.1
  have h4 := h.2.2.2.1
  have h8 := h.2.2.2.2.2.2.2.1
  have h10 := h.2.2.2.2.2.2.2.2.2
  refine Sp.ofGo (own := "CiteForge$People") (nm := "lastLow") (by decide) rfl rfl (Nat.le_of_ble_eq_true rfl) (lv := [(0, vr p), (1, vi e)]) rfl ?_
  intro g X
  refine go_iload_n X d_People_lastLow_0 rfl rfl ?_
  refine go_iconst (v := 1) X d_People_lastLow_1 ?_
  refine go_isub X d_People_lastLow_2 ?_
  refine go_istore_n (lv' := [(2, vi (e - 1)), (0, vr p), (1, vi e)]) X d_People_lastLow_3 rfl (by decide) rfl ?_
  have loop : ∀ (fuel : Nat) (i : Int), (-1 ≤ i ∨ i = e - 1) → (i < 60) → (low2 W (i + 1).toNat = low2 W e.toNat) → (i + 1).toNat < fuel → Go g 0 0 sh M sz 4 [(0, vr p), (2, vi i)] [] := by
    intro fuel
    induction fuel with
    | zero => intro i hi hi2 hp hm_loop; exact absurd hm_loop (Nat.not_lt_zero _)
    | succ fuel ih_loop =>
      intro i hi hi2 hp hm_loop
      refine go_iload_n X d_People_lastLow_4 rfl rfl ?_
      refine go_if_lt (tgt := 25) X d_People_lastLow_5 rfl (by omega) (fun hq1 => ?_) (fun hq1 => ?_)
      · skip
        refine go_iconst (v := (-1)) X d_People_lastLow_25 ?_
        refine go_iret X d_People_lastLow_26 rfl ?_ (by omega) (by omega) ?_
        · rfl
        refine ⟨?_, rfl, rfl, rfl⟩
        rw [← hp]
        rw [show (i + 1).toNat = 0 by omega]; rfl
      · skip
        refine go_aload_n X d_People_lastLow_8 rfl rfl ?_
        refine go_get (v := vr (p + 3)) X f_People_18 h1 rfl d_People_lastLow_9 (s_varr h8 (by omega)) ?_
        refine go_iload_n X d_People_lastLow_12 rfl rfl ?_
        refine go_zald X h4 (by omega) (by omega) d_People_lastLow_13 ?_
        refine go_top (v' := vi (W i)) X (by rw [hW]) ?_
        have hw0 := hWr i
        refine go_if_eq (tgt := 19) X d_People_lastLow_14 rfl (by omega) (fun hq2 => ?_) (fun hq2 => ?_)
        · skip
          have hn := hp
          rw [show (i + 1).toNat = i.toNat + 1 by omega, show low2 W (i.toNat + 1) = low2 W i.toNat from if_pos (by rw [show ((i.toNat : Nat) : Int) = i by omega]; exact hq2), show i.toNat = (i + -1 + 1).toNat by omega] at hn
          refine go_iinc (v := (-1)) (x := i) (lv' := [(2, vi (i + (-1))), (0, vr p)]) X d_People_lastLow_19 rfl (by decide) rfl ?_
          refine go_goto (tgt := 4) X d_People_lastLow_22 rfl ?_
          refine go_lv (lv' := [(0, vr p), (2, vi (i + (-1)))]) X [1, 0] rfl ?_
          exact ih_loop (i + (-1)) (by omega) (by omega) hn (by omega)
        · skip
          refine go_iload_n X d_People_lastLow_17 rfl rfl ?_
          refine go_iret X d_People_lastLow_18 rfl ?_ (by omega) (by omega) ?_
          · rfl
          refine ⟨?_, rfl, rfl, rfl⟩
          rw [← hp]
          rw [show (i + 1).toNat = i.toNat + 1 by omega, show low2 W (i.toNat + 1) = ((i.toNat : Nat) : Int) from if_neg (by rw [show ((i.toNat : Nat) : Int) = i by omega]; exact hq2), show ((i.toNat : Nat) : Int) = i by omega]
  refine go_lv (lv' := [(0, vr p), (2, vi (e - 1))]) X [1, 0] rfl ?_
  exact loop _ (e - 1) (by omega) (by omega) (by rw [show e - 1 + 1 = e by omega]) (Nat.lt_succ_self _)
