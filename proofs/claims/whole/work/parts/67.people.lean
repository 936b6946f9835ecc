/-! People: what the methods say of a text. -/
def isand (t : List Int) (i : Int) : Bool := p_bl (tg t i) && (decide (tg t (i + 1) = 97) && (decide (tg t (i + 2) = 110) && (decide (tg t (i + 3) = 100) && p_bl (tg t (i + 4)))))
def isdiv (c : Int) : Bool := p_bl c || (decide (c = 126) || decide (c = 44))
/-- names and level -/
def cns (t : List Int) (i : Int) (s : Int × Int) : Int × Int := (if p_lev s.2 (tg t i) = 0 ∧ isand t i = true then s.1 + 1 else s.1, p_lev s.2 (tg t i))
def cnn (t : List Int) : Int := if allT p_bl t = true then 0 else (it (cns t) ((t.length : Int) - 0).toNat 0 (1, 0)).1
/-- the first letter outside braces, or 0: level, answer -/
def flo (t : List Int) : Nat → Int → Int → Int
  | 0, _, _ => 0
  | m + 1, i, v => if v = 0 ∧ p_let (tg t i) = true then tg t i else flo t m (i + 1) (p_lev v (tg t i))
theorem p_lev_rng {v c i : Int} (h : 0 ≤ v ∧ v ≤ i) : 0 ≤ p_lev v c ∧ p_lev v c ≤ i + 1 := by
  unfold p_lev
  split
  · omega
  · split <;> omega
set_option maxHeartbeats 4000000 in
set_option maxRecDepth 100000 in
theorem c_People_isAnd (l : Launch) (D : va_G) {sh : s_S} {M : s_M} {sz a : Int} {N : Nat} {t : List Int} (h : tv sh M a N t) {i : Int} (hi : 0 ≤ i ∧ i < 2147483000) : Sp l D y_People_isAnd prog_7_method_3_code 2 (some .boolean) 2 0 0 [vr a, vi i] sh M sz (pF (some (vi (s_b (isand t i)))) sh M sz) := by
  have hch := h.rng
  have hln := h.len
  refine Sp.ofGo (own := "CiteForge$People") (nm := "isAnd") (by decide) rfl rfl (Nat.le_of_ble_eq_true rfl) (lv := [(0, vr a), (1, vi i)]) rfl ?_
  intro g X
  refine go_aload_n X d_People_isAnd_0 rfl rfl ?_
  refine go_iload_n X d_People_isAnd_1 rfl rfl ?_
  refine go_cVf (st2 := [vi (tg t i)]) (r := []) X k_People_35 (k_Text_at l D h (by omega)) h.1.1 rfl rfl (by omega) (Nat.le_of_ble_eq_true rfl) d_People_isAnd_2 (by omega) (by omega) rfl ?_
  have hr0 := hch i
  refine go_cSf (st2 := [vi (s_b (p_bl (tg t i)))]) (r := []) X k_People_47 (c_isBlank l D (by omega)) rfl rfl (by omega) (Nat.le_of_ble_eq_true rfl) d_People_isAnd_5 (by omega) (by omega) rfl ?_
  refine go_ifb_eq (tgt := 64) X d_People_isAnd_8 rfl (fun hq1 => ?_) (fun hq1 => ?_)
  · skip
    refine go_iconst (v := 0) X d_People_isAnd_64 ?_
    refine go_iret X d_People_isAnd_65 rfl ?_ (by omega) (by omega) ?_
    · rfl
    refine ⟨?_, rfl, rfl, rfl⟩
    have hb : isand t i = false := by simp [isand, hq1]
    rw [hb]; rfl
  · skip
    refine go_aload_n X d_People_isAnd_11 rfl rfl ?_
    refine go_iload_n X d_People_isAnd_12 rfl rfl ?_
    refine go_iconst (v := 1) X d_People_isAnd_13 ?_
    refine go_iadd X d_People_isAnd_14 ?_
    refine go_cVf (st2 := [vi (tg t (i + 1))]) (r := []) X k_People_35 (k_Text_at l D h (by omega)) h.1.1 rfl rfl (by omega) (Nat.le_of_ble_eq_true rfl) d_People_isAnd_15 (by omega) (by omega) rfl ?_
    have hr1 := hch (i + 1)
    refine go_bipush (v := 97) X d_People_isAnd_18 (by decide) ?_
    refine go_icmp_ne (tgt := 64) X d_People_isAnd_20 rfl (by omega) (by omega) (fun hq2 => ?_) (fun hq2 => ?_)
    · skip
      refine go_iconst (v := 0) X d_People_isAnd_64 ?_
      refine go_iret X d_People_isAnd_65 rfl ?_ (by omega) (by omega) ?_
      · rfl
      refine ⟨?_, rfl, rfl, rfl⟩
      have hb : isand t i = false := by simp [isand, hq1, hq2]
      rw [hb]; rfl
    · skip
      refine go_aload_n X d_People_isAnd_23 rfl rfl ?_
      refine go_iload_n X d_People_isAnd_24 rfl rfl ?_
      refine go_iconst (v := 2) X d_People_isAnd_25 ?_
      refine go_iadd X d_People_isAnd_26 ?_
      refine go_cVf (st2 := [vi (tg t (i + 2))]) (r := []) X k_People_35 (k_Text_at l D h (by omega)) h.1.1 rfl rfl (by omega) (Nat.le_of_ble_eq_true rfl) d_People_isAnd_27 (by omega) (by omega) rfl ?_
      have hr2 := hch (i + 2)
      refine go_bipush (v := 110) X d_People_isAnd_30 (by decide) ?_
      refine go_icmp_ne (tgt := 64) X d_People_isAnd_32 rfl (by omega) (by omega) (fun hq3 => ?_) (fun hq3 => ?_)
      · skip
        refine go_iconst (v := 0) X d_People_isAnd_64 ?_
        refine go_iret X d_People_isAnd_65 rfl ?_ (by omega) (by omega) ?_
        · rfl
        refine ⟨?_, rfl, rfl, rfl⟩
        have hb : isand t i = false := by simp [isand, hq1, hq2, hq3]
        rw [hb]; rfl
      · skip
        refine go_aload_n X d_People_isAnd_35 rfl rfl ?_
        refine go_iload_n X d_People_isAnd_36 rfl rfl ?_
        refine go_iconst (v := 3) X d_People_isAnd_37 ?_
        refine go_iadd X d_People_isAnd_38 ?_
        refine go_cVf (st2 := [vi (tg t (i + 3))]) (r := []) X k_People_35 (k_Text_at l D h (by omega)) h.1.1 rfl rfl (by omega) (Nat.le_of_ble_eq_true rfl) d_People_isAnd_39 (by omega) (by omega) rfl ?_
        have hr3 := hch (i + 3)
        refine go_bipush (v := 100) X d_People_isAnd_42 (by decide) ?_
        refine go_icmp_ne (tgt := 64) X d_People_isAnd_44 rfl (by omega) (by omega) (fun hq4 => ?_) (fun hq4 => ?_)
        · skip
          refine go_iconst (v := 0) X d_People_isAnd_64 ?_
          refine go_iret X d_People_isAnd_65 rfl ?_ (by omega) (by omega) ?_
          · rfl
          refine ⟨?_, rfl, rfl, rfl⟩
          have hb : isand t i = false := by simp [isand, hq1, hq2, hq3, hq4]
          rw [hb]; rfl
        · skip
          refine go_aload_n X d_People_isAnd_47 rfl rfl ?_
          refine go_iload_n X d_People_isAnd_48 rfl rfl ?_
          refine go_iconst (v := 4) X d_People_isAnd_49 ?_
          refine go_iadd X d_People_isAnd_50 ?_
          refine go_cVf (st2 := [vi (tg t (i + 4))]) (r := []) X k_People_35 (k_Text_at l D h (by omega)) h.1.1 rfl rfl (by omega) (Nat.le_of_ble_eq_true rfl) d_People_isAnd_51 (by omega) (by omega) rfl ?_
          have hr4 := hch (i + 4)
          refine go_cSf (st2 := [vi (s_b (p_bl (tg t (i + 4))))]) (r := []) X k_People_47 (c_isBlank l D (by omega)) rfl rfl (by omega) (Nat.le_of_ble_eq_true rfl) d_People_isAnd_54 (by omega) (by omega) rfl ?_
          refine go_ifb_eq (tgt := 64) X d_People_isAnd_57 rfl (fun hq5 => ?_) (fun hq5 => ?_)
          · skip
            refine go_iconst (v := 0) X d_People_isAnd_64 ?_
            refine go_iret X d_People_isAnd_65 rfl ?_ (by omega) (by omega) ?_
            · rfl
            refine ⟨?_, rfl, rfl, rfl⟩
            have hb : isand t i = false := by simp [isand, hq1, hq2, hq3, hq4, hq5]
            rw [hb]; rfl
          · skip
            refine go_iconst (v := 1) X d_People_isAnd_60 ?_
            refine go_goto (tgt := 65) X d_People_isAnd_61 rfl ?_
            refine go_iret X d_People_isAnd_65 rfl ?_ (by omega) (by omega) ?_
            · rfl
            refine ⟨?_, rfl, rfl, rfl⟩
            have hb : isand t i = true := by simp [isand, hq1, hq2, hq3, hq4, hq5]
            rw [hb]; rfl
set_option maxHeartbeats 4000000 in
set_option maxRecDepth 100000 in
theorem c_People_isDivider (l : Launch) (D : va_G) {sh : s_S} {M : s_M} {sz c : Int} (hc : 0 ≤ c ∧ c < 65536) : Sp l D y_People_isDivider prog_7_method_7_code 1 (some .boolean) 2 0 0 [vi c] sh M sz (pF (some (vi (s_b (isdiv c)))) sh M sz) := by
  refine Sp.ofGo (own := "CiteForge$People") (nm := "isDivider") (by decide) rfl rfl (Nat.le_of_ble_eq_true rfl) (lv := [(0, vi c)]) rfl ?_
  intro g X
  refine go_iload_n X d_People_isDivider_0 rfl rfl ?_
  refine go_cSf (st2 := [vi (s_b (p_bl c))]) (r := []) X k_People_47 (c_isBlank l D (by omega)) rfl rfl (by omega) (Nat.le_of_ble_eq_true rfl) d_People_isDivider_1 (by omega) (by omega) rfl ?_
  refine go_ifb_ne (tgt := 19) X d_People_isDivider_4 rfl (fun hq1 => ?_) (fun hq1 => ?_)
  · skip
    refine go_iconst (v := 1) X d_People_isDivider_19 ?_
    refine go_goto (tgt := 24) X d_People_isDivider_20 rfl ?_
    refine go_iret X d_People_isDivider_24 rfl ?_ (by omega) (by omega) ?_
    · rfl
    refine ⟨?_, rfl, rfl, rfl⟩
    have hb : isdiv c = true := by simp [isdiv, hq1]
    rw [hb]; rfl
  · skip
    refine go_iload_n X d_People_isDivider_7 rfl rfl ?_
    refine go_bipush (v := 126) X d_People_isDivider_8 (by decide) ?_
    refine go_icmp_eq (tgt := 19) X d_People_isDivider_10 rfl (by omega) (by omega) (fun hq2 => ?_) (fun hq2 => ?_)
    · skip
      refine go_iconst (v := 1) X d_People_isDivider_19 ?_
      refine go_goto (tgt := 24) X d_People_isDivider_20 rfl ?_
      refine go_iret X d_People_isDivider_24 rfl ?_ (by omega) (by omega) ?_
      · rfl
      refine ⟨?_, rfl, rfl, rfl⟩
      have hb : isdiv c = true := by simp [isdiv, hq1, hq2]
      rw [hb]; rfl
    · skip
      refine go_iload_n X d_People_isDivider_13 rfl rfl ?_
      refine go_bipush (v := 44) X d_People_isDivider_14 (by decide) ?_
      refine go_icmp_ne (tgt := 23) X d_People_isDivider_16 rfl (by omega) (by omega) (fun hq3 => ?_) (fun hq3 => ?_)
      · skip
        refine go_iconst (v := 0) X d_People_isDivider_23 ?_
        refine go_iret X d_People_isDivider_24 rfl ?_ (by omega) (by omega) ?_
        · rfl
        refine ⟨?_, rfl, rfl, rfl⟩
        have hb : isdiv c = false := by simp [isdiv, hq1, hq2, hq3]
        rw [hb]; rfl
      · skip
        refine go_iconst (v := 1) X d_People_isDivider_19 ?_
        refine go_goto (tgt := 24) X d_People_isDivider_20 rfl ?_
        refine go_iret X d_People_isDivider_24 rfl ?_ (by omega) (by omega) ?_
        · rfl
        refine ⟨?_, rfl, rfl, rfl⟩
        have hb : isdiv c = true := by simp [isdiv, hq1, hq2, hq3]
        rw [hb]; rfl
set_option maxHeartbeats 4000000 in
set_option maxRecDepth 100000 in
theorem c_People_countNames (l : Launch) (D : va_G) {sh : s_S} {M : s_M} {sz a : Int} {N : Nat} {t : List Int} (h : tv sh M a N t) : Sp l D y_People_countNames prog_7_method_2_code 4 (some .int) 3 0 0 [vr a] sh M sz (pF (some (vi (cnn t))) sh M sz) := by
  have hch := h.rng
  have hln := h.len
  refine Sp.ofGo (own := "CiteForge$People") (nm := "countNames") (by decide) rfl rfl (Nat.le_of_ble_eq_true rfl) (lv := [(0, vr a)]) rfl ?_
  intro g X
  refine go_aload_n X d_People_countNames_0 rfl rfl ?_
  refine go_cVf (st2 := [vi (s_b (allT p_bl t))]) (r := []) X k_People_25 (c_Text_isBlankAlone l D h) h.1.1 rfl rfl (by omega) (Nat.le_of_ble_eq_true rfl) d_People_countNames_1 (by omega) (by omega) rfl ?_
  refine go_ifb_eq (tgt := 9) X d_People_countNames_4 rfl (fun hq1 => ?_) (fun hq1 => ?_)
  · skip
    refine go_iconst (v := 1) X d_People_countNames_9 ?_
    refine go_istore_n (lv' := [(1, vi 1), (0, vr a)]) X d_People_countNames_10 rfl (by decide) rfl ?_
    refine go_iconst (v := 0) X d_People_countNames_11 ?_
    refine go_istore_n (lv' := [(2, vi 0), (1, vi 1), (0, vr a)]) X d_People_countNames_12 rfl (by decide) rfl ?_
    refine go_iconst (v := 0) X d_People_countNames_13 ?_
    refine go_istore_n (lv' := [(3, vi 0), (2, vi 0), (1, vi 1), (0, vr a)]) X d_People_countNames_14 rfl (by decide) rfl ?_
    have loop : ∀ (fuel : Nat) (i : Int) (c : Int) (v : Int), (0 ≤ i) → (i ≤ t.length) → (1 ≤ c ∧ c ≤ i + 1) → (0 ≤ v ∧ v ≤ i) → (it (cns t) ((t.length : Int) - i).toNat i (c, v) = it (cns t) ((t.length : Int) - 0).toNat 0 (1, 0)) → ((t.length : Int) - i).toNat < fuel → Go g 0 0 sh M sz 15 [(0, vr a), (1, vi c), (2, vi v), (3, vi i)] [] := by
      intro fuel
      induction fuel with
      | zero => intro i c v hi hi2 hc hv hp hm_loop; exact absurd hm_loop (Nat.not_lt_zero _)
      | succ fuel ih_loop =>
        intro i c v hi hi2 hc hv hp hm_loop
        refine go_iload_n X d_People_countNames_15 rfl rfl ?_
        refine go_aload_n X d_People_countNames_16 rfl rfl ?_
        refine go_cVf (st2 := [vi (t.length : Int), vi i]) (r := [vi i]) X k_People_31 (k_Text_size l D h) h.1.1 rfl rfl (by omega) (Nat.le_of_ble_eq_true rfl) d_People_countNames_17 (by omega) (by omega) rfl ?_
        refine go_icmp_ge (tgt := 54) X d_People_countNames_20 rfl (by omega) (by omega) (fun hq2 => ?_) (fun hq2 => ?_)
        · skip
          refine go_iload_n X d_People_countNames_54 rfl rfl ?_
          refine go_iret X d_People_countNames_55 rfl ?_ (by omega) (by omega) ?_
          · rfl
          refine ⟨?_, rfl, rfl, rfl⟩
          have e0 : cnn t = (it (cns t) ((t.length : Int) - 0).toNat 0 (1, 0)).1 := if_neg (by rw [hq1]; decide)
          rw [e0, it_fin (cns t) hp (by omega)]
        · skip
          refine go_iload_n X d_People_countNames_23 rfl rfl ?_
          refine go_aload_n X d_People_countNames_24 rfl rfl ?_
          refine go_iload_n X d_People_countNames_25 rfl rfl ?_
          refine go_cVf (st2 := [vi (tg t i), vi v]) (r := [vi v]) X k_People_35 (k_Text_at l D h (by omega)) h.1.1 rfl rfl (by omega) (Nat.le_of_ble_eq_true rfl) d_People_countNames_26 (by omega) (by omega) rfl ?_
          have hr0 := hch i
          refine go_cSf (st2 := [vi (p_lev v (tg t i))]) (r := []) X k_People_39 (c_levelBehind l D (by omega) (by omega)) rfl rfl (by omega) (Nat.le_of_ble_eq_true rfl) d_People_countNames_29 (by omega) (by omega) rfl ?_
          have hlv := p_lev_rng (c := tg t i) hv
          refine go_istore_n (lv' := [(2, vi (p_lev v (tg t i))), (0, vr a), (1, vi c), (3, vi i)]) X d_People_countNames_32 rfl (by decide) rfl ?_
          refine go_iload_n X d_People_countNames_33 rfl rfl ?_
          refine go_if_ne (tgt := 48) X d_People_countNames_34 rfl (by omega) (fun hq3 => ?_) (fun hq3 => ?_)
          · skip
            have hs0 : cns t i (c, v) = (c, p_lev v (tg t i)) := by simp [cns, hq3]
            have hn := it_nxt (cns t) hp (by omega) hs0
            refine go_iinc (v := 1) (x := i) (lv' := [(3, vi (i + 1)), (2, vi (p_lev v (tg t i))), (0, vr a), (1, vi c)]) X d_People_countNames_48 rfl (by decide) rfl ?_
            refine go_goto (tgt := 15) X d_People_countNames_51 rfl ?_
            refine go_lv (lv' := [(0, vr a), (1, vi c), (2, vi (p_lev v (tg t i))), (3, vi (i + 1))]) X [2, 3, 1, 0] rfl ?_
            exact ih_loop (i + 1) c (p_lev v (tg t i)) (by omega) (by omega) (by omega) hlv hn (by omega)
          · skip
            refine go_aload_n X d_People_countNames_37 rfl rfl ?_
            refine go_iload_n X d_People_countNames_38 rfl rfl ?_
            refine go_cSf (st2 := [vi (s_b (isand t i))]) (r := []) X k_People_43 (c_People_isAnd l D h (by omega)) rfl rfl (by omega) (Nat.le_of_ble_eq_true rfl) d_People_countNames_39 (by omega) (by omega) rfl ?_
            refine go_ifb_eq (tgt := 48) X d_People_countNames_42 rfl (fun hq4 => ?_) (fun hq4 => ?_)
            · skip
              have hs0 : cns t i (c, v) = (c, p_lev v (tg t i)) := by simp [cns, hq4]
              have hn := it_nxt (cns t) hp (by omega) hs0
              refine go_iinc (v := 1) (x := i) (lv' := [(3, vi (i + 1)), (2, vi (p_lev v (tg t i))), (0, vr a), (1, vi c)]) X d_People_countNames_48 rfl (by decide) rfl ?_
              refine go_goto (tgt := 15) X d_People_countNames_51 rfl ?_
              refine go_lv (lv' := [(0, vr a), (1, vi c), (2, vi (p_lev v (tg t i))), (3, vi (i + 1))]) X [2, 3, 1, 0] rfl ?_
              exact ih_loop (i + 1) c (p_lev v (tg t i)) (by omega) (by omega) (by omega) hlv hn (by omega)
            · skip
              refine go_iinc (v := 1) (x := c) (lv' := [(1, vi (c + 1)), (2, vi (p_lev v (tg t i))), (0, vr a), (3, vi i)]) X d_People_countNames_45 rfl (by decide) rfl ?_
              have hs0 : cns t i (c, v) = (c + 1, p_lev v (tg t i)) := by simp [cns, hq3, hq4]
              have hn := it_nxt (cns t) hp (by omega) hs0
              refine go_iinc (v := 1) (x := i) (lv' := [(3, vi (i + 1)), (1, vi (c + 1)), (2, vi (p_lev v (tg t i))), (0, vr a)]) X d_People_countNames_48 rfl (by decide) rfl ?_
              refine go_goto (tgt := 15) X d_People_countNames_51 rfl ?_
              refine go_lv (lv' := [(0, vr a), (1, vi (c + 1)), (2, vi (p_lev v (tg t i))), (3, vi (i + 1))]) X [3, 1, 2, 0] rfl ?_
              exact ih_loop (i + 1) (c + 1) (p_lev v (tg t i)) (by omega) (by omega) (by omega) hlv hn (by omega)
    refine go_lv (lv' := [(0, vr a), (1, vi 1), (2, vi 0), (3, vi 0)]) X [3, 2, 1, 0] rfl ?_
    exact loop _ 0 1 0 (by omega) (by omega) (by omega) (by omega) rfl (Nat.lt_succ_self _)
  · skip
    refine go_iconst (v := 0) X d_People_countNames_7 ?_
    refine go_iret X d_People_countNames_8 rfl ?_ (by omega) (by omega) ?_
    · rfl
    refine ⟨?_, rfl, rfl, rfl⟩
    rw [show cnn t = 0 from if_pos hq1]
set_option maxHeartbeats 4000000 in
set_option maxRecDepth 100000 in
theorem c_People_firstLetterOutside (l : Launch) (D : va_G) {sh : s_S} {M : s_M} {sz a : Int} {N : Nat} {t : List Int} (h : tv sh M a N t) {b e : Int} (hb : 0 ≤ b ∧ b ≤ 1000) (he : 0 ≤ e ∧ e ≤ 1000) : Sp l D y_People_firstLetterOutside prog_7_method_9_code 6 (some .char) 2 0 0 [vr a, vi b, vi e] sh M sz (pF (some (vi (flo t (e - b).toNat b 0))) sh M sz) := by
  have hch := h.rng
  have hln := h.len
  refine Sp.ofGo (own := "CiteForge$People") (nm := "firstLetterOutside") (by decide) rfl rfl (Nat.le_of_ble_eq_true rfl) (lv := [(0, vr a), (1, vi b), (2, vi e)]) rfl ?_
  intro g X
  refine go_iconst (v := 0) X d_People_firstLetterOutside_0 ?_
  refine go_istore_n (lv' := [(3, vi 0), (0, vr a), (1, vi b), (2, vi e)]) X d_People_firstLetterOutside_1 rfl (by decide) rfl ?_
  refine go_iload_n X d_People_firstLetterOutside_2 rfl rfl ?_
  refine go_istore (lv' := [(4, vi b), (3, vi 0), (0, vr a), (1, vi b), (2, vi e)]) X d_People_firstLetterOutside_3 (by decide) rfl ?_
  have loop : ∀ (fuel : Nat) (i : Int) (v : Int), (b ≤ i) → (i ≤ e ∨ i = b) → (0 ≤ v ∧ v ≤ i - b) → (flo t (e - i).toNat i v = flo t (e - b).toNat b 0) → (e - i).toNat < fuel → Go g 0 0 sh M sz 5 [(0, vr a), (2, vi e), (3, vi v), (4, vi i)] [] := by
    intro fuel
    induction fuel with
    | zero => intro i v hi hi2 hv hp hm_loop; exact absurd hm_loop (Nat.not_lt_zero _)
    | succ fuel ih_loop =>
      intro i v hi hi2 hv hp hm_loop
      refine go_iload X d_People_firstLetterOutside_5 rfl ?_
      refine go_iload_n X d_People_firstLetterOutside_7 rfl rfl ?_
      refine go_icmp_ge (tgt := 47) X d_People_firstLetterOutside_8 rfl (by omega) (by omega) (fun hq1 => ?_) (fun hq1 => ?_)
      · skip
        refine go_iconst (v := 0) X d_People_firstLetterOutside_47 ?_
        refine go_iret X d_People_firstLetterOutside_48 rfl ?_ (by omega) (by omega) ?_
        · rfl
        refine ⟨?_, rfl, rfl, rfl⟩
        rw [← hp]
        rw [show (e - i).toNat = 0 by omega]; rfl
      · skip
        refine go_aload_n X d_People_firstLetterOutside_11 rfl rfl ?_
        refine go_iload X d_People_firstLetterOutside_12 rfl ?_
        refine go_cVf (st2 := [vi (tg t i)]) (r := []) X k_People_35 (k_Text_at l D h (by omega)) h.1.1 rfl rfl (by omega) (Nat.le_of_ble_eq_true rfl) d_People_firstLetterOutside_14 (by omega) (by omega) rfl ?_
        have hr0 := hch i
        refine go_istore (lv' := [(5, vi (tg t i)), (0, vr a), (2, vi e), (3, vi v), (4, vi i)]) X d_People_firstLetterOutside_17 (by decide) rfl ?_
        refine go_iload_n X d_People_firstLetterOutside_19 rfl rfl ?_
        refine go_if_ne (tgt := 34) X d_People_firstLetterOutside_20 rfl (by omega) (fun hq2 => ?_) (fun hq2 => ?_)
        · skip
          refine go_iload_n X d_People_firstLetterOutside_34 rfl rfl ?_
          refine go_iload X d_People_firstLetterOutside_35 rfl ?_
          refine go_cSf (st2 := [vi (p_lev v (tg t i))]) (r := []) X k_People_39 (c_levelBehind l D (by omega) (by omega)) rfl rfl (by omega) (Nat.le_of_ble_eq_true rfl) d_People_firstLetterOutside_37 (by omega) (by omega) rfl ?_
          have hlv := p_lev_rng (c := tg t i) hv
          refine go_istore_n (lv' := [(3, vi (p_lev v (tg t i))), (5, vi (tg t i)), (0, vr a), (2, vi e), (4, vi i)]) X d_People_firstLetterOutside_40 rfl (by decide) rfl ?_
          have hs0 : flo t (e - i).toNat i v = flo t (e - (i + 1)).toNat (i + 1) (p_lev v (tg t i)) := by
            rw [show (e - i).toNat = (e - (i + 1)).toNat + 1 by omega]
            exact if_neg (fun q => hq2 q.1)
          have hn := hs0.symm.trans hp
          refine go_iinc (v := 1) (x := i) (lv' := [(4, vi (i + 1)), (3, vi (p_lev v (tg t i))), (5, vi (tg t i)), (0, vr a), (2, vi e)]) X d_People_firstLetterOutside_41 rfl (by decide) rfl ?_
          refine go_goto (tgt := 5) X d_People_firstLetterOutside_44 rfl ?_
          refine go_lv (lv' := [(0, vr a), (2, vi e), (3, vi (p_lev v (tg t i))), (4, vi (i + 1))]) X [3, 4, 1, 0] rfl ?_
          exact ih_loop (i + 1) (p_lev v (tg t i)) (by omega) (by omega) (by omega) hn (by omega)
        · skip
          refine go_iload X d_People_firstLetterOutside_23 rfl ?_
          refine go_cSf (st2 := [vi (s_b (p_let (tg t i)))]) (r := []) X k_People_88 (c_isLetter l D (by omega)) rfl rfl (by omega) (Nat.le_of_ble_eq_true rfl) d_People_firstLetterOutside_25 (by omega) (by omega) rfl ?_
          refine go_ifb_eq (tgt := 34) X d_People_firstLetterOutside_28 rfl (fun hq3 => ?_) (fun hq3 => ?_)
          · skip
            refine go_iload_n X d_People_firstLetterOutside_34 rfl rfl ?_
            refine go_iload X d_People_firstLetterOutside_35 rfl ?_
            refine go_cSf (st2 := [vi (p_lev v (tg t i))]) (r := []) X k_People_39 (c_levelBehind l D (by omega) (by omega)) rfl rfl (by omega) (Nat.le_of_ble_eq_true rfl) d_People_firstLetterOutside_37 (by omega) (by omega) rfl ?_
            have hlv := p_lev_rng (c := tg t i) hv
            refine go_istore_n (lv' := [(3, vi (p_lev v (tg t i))), (5, vi (tg t i)), (0, vr a), (2, vi e), (4, vi i)]) X d_People_firstLetterOutside_40 rfl (by decide) rfl ?_
            have hs0 : flo t (e - i).toNat i v = flo t (e - (i + 1)).toNat (i + 1) (p_lev v (tg t i)) := by
              rw [show (e - i).toNat = (e - (i + 1)).toNat + 1 by omega]
              exact if_neg (fun q => by rw [hq3] at q; exact absurd q.2 (by decide))
            have hn := hs0.symm.trans hp
            refine go_iinc (v := 1) (x := i) (lv' := [(4, vi (i + 1)), (3, vi (p_lev v (tg t i))), (5, vi (tg t i)), (0, vr a), (2, vi e)]) X d_People_firstLetterOutside_41 rfl (by decide) rfl ?_
            refine go_goto (tgt := 5) X d_People_firstLetterOutside_44 rfl ?_
            refine go_lv (lv' := [(0, vr a), (2, vi e), (3, vi (p_lev v (tg t i))), (4, vi (i + 1))]) X [3, 4, 1, 0] rfl ?_
            exact ih_loop (i + 1) (p_lev v (tg t i)) (by omega) (by omega) (by omega) hn (by omega)
          · skip
            refine go_iload X d_People_firstLetterOutside_31 rfl ?_
            refine go_iret X d_People_firstLetterOutside_33 rfl ?_ (by omega) (by omega) ?_
            · exact n_nc (by have := hch i; omega)
            refine ⟨?_, rfl, rfl, rfl⟩
            rw [← hp]
            rw [show (e - i).toNat = (e - (i + 1)).toNat + 1 by omega]
            rw [show flo t ((e - (i + 1)).toNat + 1) i v = tg t i from if_pos ⟨by omega, hq3⟩]
  refine go_lv (lv' := [(0, vr a), (2, vi e), (3, vi 0), (4, vi b)]) X [2, 4, 1, 0] rfl ?_
  exact loop _ b 0 (by omega) (by omega) (by omega) rfl (Nat.lt_succ_self _)
