/-- where a word's initial stands -/
def ipl (t : List Int) : Nat → Int → Int → Int
  | 0, _, c => c
  | m + 1, i, c => if p_let (tg t i) = true then i else ipl t m (i + 1) (if c < 0 ∧ p_brc (tg t i) = false then i else c)
def acm (b e : Int) (u : List Int) : List Int := if b < e ∧ 0 < u.length then ta 60 u 44 else u
def spc (u : List Int) : List Int := if 0 < u.length then ta 60 u 32 else u
def aws (t : List Int) (B N : Int → Int) (i : Int) (u : List Int) : List Int := spc u ++ sl t (max (B i) 0) (min (min (N i) (t.length : Int) - max (B i) 0) (((60 : Nat) : Int) - (spc u).length))
def awd (t : List Int) (B N : Int → Int) (b e : Int) (u : List Int) : List Int := it (aws t B N) (e - b).toNat b u
def iplw (t : List Int) (B N : Int → Int) (w : Int) : Int := ipl t (N w - B w).toNat (B w) (-1)
def ain (t : List Int) (B N : Int → Int) (i : Int) (u : List Int) : List Int := ta 60 (if 0 ≤ iplw t B N i then ta 60 (spc u) (tg t (iplw t B N i)) else spc u) 46
def ais (t : List Int) (B N : Int → Int) (b e : Int) (u : List Int) : List Int := it (ain t B N) (e - b).toNat b u
abbrev bnk (B N : Int → Int) (b e : Int) : Prop := ∀ i, b ≤ i → i < e → (0 ≤ B i ∧ B i ≤ 1000) ∧ 0 ≤ N i ∧ N i ≤ 1000
theorem ipl_rng {t : List Int} : ∀ (m : Nat) (i c lo : Int), lo ≤ i → (c = -1 ∨ (lo ≤ c ∧ c < i)) → (ipl t m i c = -1 ∨ (lo ≤ ipl t m i c ∧ ipl t m i c < i + m))
  | 0, i, c, lo, h1, h2 => by
    show c = -1 ∨ (lo ≤ c ∧ c < i + ((0 : Nat) : Int))
    omega
  | m + 1, i, c, lo, h1, h2 => by
    unfold ipl
    split
    · right; omega
    · have := ipl_rng (t := t) m (i + 1) (if c < 0 ∧ p_brc (tg t i) = false then i else c) lo (by omega) (by split <;> omega)
      omega
set_option maxHeartbeats 4000000 in
set_option maxRecDepth 100000 in
theorem c_People_addComma (l : Launch) (D : va_G) {sh : s_S} {M : s_M} {sz a b e : Int} {t : List Int} (h : tv sh M a 60 t) (hb : -2147483648 ≤ b ∧ b < 2147483648) (he : -2147483648 ≤ e ∧ e < 2147483648) : Sp l D y_People_addComma prog_7_method_15_code 3 none 2 0 0 [vi b, vi e, vr a] sh M sz (fun v' sh' M' sz' => v' = none ∧ sh' = sh ∧ sz' = sz ∧ tv sh M' a 60 (acm b e t) ∧ fr (fun z => z = a ∨ z = a + 1) M M') := by
  have hln := h.len
  have ha0 := h.1.2.2.2.2.2.2.1
  refine Sp.ofGo (own := "CiteForge$People") (nm := "addComma") (by decide) rfl rfl (Nat.le_of_ble_eq_true rfl) (lv := [(0, vi b), (1, vi e), (2, vr a)]) rfl ?_
  intro g X
  refine go_iload_n X d_People_addComma_0 rfl rfl ?_
  refine go_iload_n X d_People_addComma_1 rfl rfl ?_
  refine go_icmp_ge (tgt := 18) X d_People_addComma_2 rfl (by omega) (by omega) (fun hq1 => ?_) (fun hq1 => ?_)
  · skip
    refine go_vret X d_People_addComma_18 rfl (by omega) (by omega) ?_
    have g : ¬ (b < e ∧ 0 < t.length) := by omega
    rw [show acm b e t = t from if_neg g]
    exact ⟨rfl, rfl, rfl, h, fun z _ => rfl⟩
  · skip
    refine go_aload_n X d_People_addComma_5 rfl rfl ?_
    refine go_cVf (st2 := [vi (t.length : Int)]) (r := []) X k_People_31 (k_Text_size l D h) h.1.1 rfl rfl (by omega) (Nat.le_of_ble_eq_true rfl) d_People_addComma_6 (by omega) (by omega) rfl ?_
    refine go_if_le (tgt := 18) X d_People_addComma_9 rfl (by omega) (fun hq2 => ?_) (fun hq2 => ?_)
    · skip
      refine go_vret X d_People_addComma_18 rfl (by omega) (by omega) ?_
      have g : ¬ (b < e ∧ 0 < t.length) := by omega
      rw [show acm b e t = t from if_neg g]
      exact ⟨rfl, rfl, rfl, h, fun z _ => rfl⟩
    · skip
      refine go_aload_n X d_People_addComma_12 rfl rfl ?_
      refine go_bipush (v := 44) X d_People_addComma_13 (by decide) ?_
      refine go_cV (st2 := []) (r := []) X k_People_143 (k_Text_add l D h (by omega)) h.1.1 rfl rfl (by omega) (Nat.le_of_ble_eq_true rfl) d_People_addComma_15 (by omega) (by omega) (fun v sh' M3 sz' hp4 => ?_)
      obtain ⟨e5, e6, e7, tv8, fr9⟩ := hp4
      subst e5
      rw [e6, e7]
      show Go g 0 0 sh M3 sz 18 [(0, vi b), (1, vi e), (2, vr a)] []
      have fr10 : fr (fun z => z = a ∨ z = a + 1) M M3 := fun z hz => by
        have hz1 : ¬ (z = a ∨ z = a + 1) := hz
        exact (fr9 z (by omega))
      clear fr9
      refine go_vret X d_People_addComma_18 rfl (by omega) (by omega) ?_
      have g : b < e ∧ 0 < t.length := by omega
      rw [show acm b e t = ta 60 t 44 from if_pos g]
      exact ⟨rfl, rfl, rfl, tv8, fr10⟩
set_option maxHeartbeats 4000000 in
set_option maxRecDepth 100000 in
theorem c_People_initialPlace (l : Launch) (D : va_G) {sh : s_S} {M : s_M} {sz p : Int} {V B N Lw Pb : Int → Int} (h : ppl sh M p V B N Lw Pb) {a : Int} {K : Nat} {t : List Int} (ht : tv sh M a K t) {q : Int} (hq : 0 ≤ q ∧ q < 60) (hB : (0 ≤ B q ∧ B q ≤ 1000) ∧ 0 ≤ N q ∧ N q ≤ 1000) : Sp l D y_People_initialPlace prog_7_method_18_code 6 (some .int) 2 0 0 [vr p, vr a, vi q] sh M sz (pF (some (vi (iplw t B N q))) sh M sz) := by
  have hp0 : 0 ≤ p := h.1.2.2.2.2.2.2.2.2.2
  have hwb := h.1.2.2.2.2.2.1
  have hwe := h.1.2.2.2.2.2.2.1
  have hch := ht.rng
  have hln := ht.len
  refine Sp.ofGo (own := "CiteForge$People") (nm := "initialPlace") (by decide) rfl rfl (Nat.le_of_ble_eq_true rfl) (lv := [(0, vr p), (1, vr a), (2, vi q)]) rfl ?_
  intro g X
  refine go_iconst (v := (-1)) X d_People_initialPlace_0 ?_
  refine go_istore_n (lv' := [(3, vi (-1)), (0, vr p), (1, vr a), (2, vi q)]) X d_People_initialPlace_1 rfl (by decide) rfl ?_
  refine go_aload_n X d_People_initialPlace_2 rfl rfl ?_
  refine go_get (v := vr (p + 1)) X f_People_9 h.1.1 rfl d_People_initialPlace_3 (s_varr hwb (by omega)) ?_
  refine go_iload_n X d_People_initialPlace_6 rfl rfl ?_
  refine go_iald X h.1.2.1 (by omega) (by omega) d_People_initialPlace_7 ?_
  refine go_top (v' := vi (B q)) X (by rw [h.2.2.1]) ?_
  refine go_istore (lv' := [(4, vi (B q)), (3, vi (-1)), (0, vr p), (1, vr a), (2, vi q)]) X d_People_initialPlace_8 (by decide) rfl ?_
  have loop : ∀ (fuel : Nat) (i : Int) (c : Int), (B q ≤ i) → (i ≤ N q ∨ i = B q) → (-1 ≤ c ∧ c < 2000) → (ipl t (N q - i).toNat i c = iplw t B N q) → (N q - i).toNat < fuel → Go g 0 0 sh M sz 10 [(0, vr p), (1, vr a), (2, vi q), (3, vi c), (4, vi i)] [] := by
    intro fuel
    induction fuel with
    | zero => intro i c hi hi2 hc hp hm_loop; exact absurd hm_loop (Nat.not_lt_zero _)
    | succ fuel ih_loop =>
      intro i c hi hi2 hc hp hm_loop
      refine go_iload X d_People_initialPlace_10 rfl ?_
      refine go_aload_n X d_People_initialPlace_12 rfl rfl ?_
      refine go_get (v := vr (p + 2)) X f_People_15 h.1.1 rfl d_People_initialPlace_13 (s_varr hwe (by omega)) ?_
      refine go_iload_n X d_People_initialPlace_16 rfl rfl ?_
      refine go_iald X h.1.2.2.1 (by omega) (by omega) d_People_initialPlace_17 ?_
      refine go_top (v' := vi (N q)) X (by rw [h.2.2.2.1]) ?_
      refine go_icmp_ge (tgt := 61) X d_People_initialPlace_18 rfl (by omega) (by omega) (fun hq1 => ?_) (fun hq1 => ?_)
      · skip
        refine go_iload_n X d_People_initialPlace_61 rfl rfl ?_
        refine go_iret X d_People_initialPlace_62 rfl ?_ (by omega) (by omega) ?_
        · rfl
        refine ⟨?_, rfl, rfl, rfl⟩
        rw [← hp]
        rw [show (N q - i).toNat = 0 by omega]; rfl
      · skip
        refine go_aload_n X d_People_initialPlace_21 rfl rfl ?_
        refine go_iload X d_People_initialPlace_22 rfl ?_
        refine go_cVf (st2 := [vi (tg t i)]) (r := []) X k_People_35 (k_Text_at l D ht (by omega)) ht.1.1 rfl rfl (by omega) (Nat.le_of_ble_eq_true rfl) d_People_initialPlace_24 (by omega) (by omega) rfl ?_
        have hr0 := hch i
        refine go_istore (lv' := [(5, vi (tg t i)), (0, vr p), (1, vr a), (2, vi q), (3, vi c), (4, vi i)]) X d_People_initialPlace_27 (by decide) rfl ?_
        refine go_iload X d_People_initialPlace_29 rfl ?_
        refine go_cSf (st2 := [vi (s_b (p_let (tg t i)))]) (r := []) X k_People_88 (c_isLetter l D (by omega)) rfl rfl (by omega) (Nat.le_of_ble_eq_true rfl) d_People_initialPlace_31 (by omega) (by omega) rfl ?_
        refine go_ifb_eq (tgt := 40) X d_People_initialPlace_34 rfl (fun hq2 => ?_) (fun hq2 => ?_)
        · skip
          refine go_iload_n X d_People_initialPlace_40 rfl rfl ?_
          refine go_if_ge (tgt := 55) X d_People_initialPlace_41 rfl (by omega) (fun hq3 => ?_) (fun hq3 => ?_)
          · skip
            have hc2 : (if c < 0 ∧ p_brc (tg t i) = false then i else c) = c := if_neg (fun q => by omega)
            have hn := hp
            rw [show (N q - i).toNat = (N q - (i + 1)).toNat + 1 by omega, show ipl t ((N q - (i + 1)).toNat + 1) i c = ipl t (N q - (i + 1)).toNat (i + 1) (if c < 0 ∧ p_brc (tg t i) = false then i else c) from if_neg (by rw [hq2]; decide), hc2] at hn
            refine go_iinc (v := 1) (x := i) (lv' := [(4, vi (i + 1)), (5, vi (tg t i)), (0, vr p), (1, vr a), (2, vi q), (3, vi c)]) X d_People_initialPlace_55 rfl (by decide) rfl ?_
            refine go_goto (tgt := 10) X d_People_initialPlace_58 rfl ?_
            refine go_lv (lv' := [(0, vr p), (1, vr a), (2, vi q), (3, vi c), (4, vi (i + 1))]) X [2, 3, 4, 5, 0] rfl ?_
            exact ih_loop (i + 1) c (by omega) (by omega) (by omega) hn (by omega)
          · skip
            refine go_iload X d_People_initialPlace_44 rfl ?_
            refine go_cSf (st2 := [vi (s_b (p_brc (tg t i)))]) (r := []) X k_People_155 (c_isBrace l D (by omega)) rfl rfl (by omega) (Nat.le_of_ble_eq_true rfl) d_People_initialPlace_46 (by omega) (by omega) rfl ?_
            refine go_ifb_ne (tgt := 55) X d_People_initialPlace_49 rfl (fun hq4 => ?_) (fun hq4 => ?_)
            · skip
              have hc2 : (if c < 0 ∧ p_brc (tg t i) = false then i else c) = c := if_neg (fun q => by rw [hq4] at q; exact absurd q.2 (by decide))
              have hn := hp
              rw [show (N q - i).toNat = (N q - (i + 1)).toNat + 1 by omega, show ipl t ((N q - (i + 1)).toNat + 1) i c = ipl t (N q - (i + 1)).toNat (i + 1) (if c < 0 ∧ p_brc (tg t i) = false then i else c) from if_neg (by rw [hq2]; decide), hc2] at hn
              refine go_iinc (v := 1) (x := i) (lv' := [(4, vi (i + 1)), (5, vi (tg t i)), (0, vr p), (1, vr a), (2, vi q), (3, vi c)]) X d_People_initialPlace_55 rfl (by decide) rfl ?_
              refine go_goto (tgt := 10) X d_People_initialPlace_58 rfl ?_
              refine go_lv (lv' := [(0, vr p), (1, vr a), (2, vi q), (3, vi c), (4, vi (i + 1))]) X [2, 3, 4, 5, 0] rfl ?_
              exact ih_loop (i + 1) c (by omega) (by omega) (by omega) hn (by omega)
            · skip
              refine go_iload X d_People_initialPlace_52 rfl ?_
              refine go_istore_n (lv' := [(3, vi i), (5, vi (tg t i)), (0, vr p), (1, vr a), (2, vi q), (4, vi i)]) X d_People_initialPlace_54 rfl (by decide) rfl ?_
              have hc2 : (if c < 0 ∧ p_brc (tg t i) = false then i else c) = i := if_pos ⟨hq3, hq4⟩
              have hn := hp
              rw [show (N q - i).toNat = (N q - (i + 1)).toNat + 1 by omega, show ipl t ((N q - (i + 1)).toNat + 1) i c = ipl t (N q - (i + 1)).toNat (i + 1) (if c < 0 ∧ p_brc (tg t i) = false then i else c) from if_neg (by rw [hq2]; decide), hc2] at hn
              refine go_iinc (v := 1) (x := i) (lv' := [(4, vi (i + 1)), (3, vi i), (5, vi (tg t i)), (0, vr p), (1, vr a), (2, vi q)]) X d_People_initialPlace_55 rfl (by decide) rfl ?_
              refine go_goto (tgt := 10) X d_People_initialPlace_58 rfl ?_
              refine go_lv (lv' := [(0, vr p), (1, vr a), (2, vi q), (3, vi i), (4, vi (i + 1))]) X [3, 4, 5, 1, 0] rfl ?_
              exact ih_loop (i + 1) i (by omega) (by omega) (by omega) hn (by omega)
        · skip
          refine go_iload X d_People_initialPlace_37 rfl ?_
          refine go_iret X d_People_initialPlace_39 rfl ?_ (by omega) (by omega) ?_
          · rfl
          refine ⟨?_, rfl, rfl, rfl⟩
          rw [← hp]
          rw [show (N q - i).toNat = (N q - (i + 1)).toNat + 1 by omega, show ipl t ((N q - (i + 1)).toNat + 1) i c = i from if_pos hq2]
  refine go_lv (lv' := [(0, vr p), (1, vr a), (2, vi q), (3, vi (-1)), (4, vi (B q))]) X [2, 3, 4, 1, 0] rfl ?_
  exact loop _ (B q) (-1) (by omega) (by omega) (by omega) rfl (Nat.lt_succ_self _)
set_option maxHeartbeats 4000000 in
set_option maxRecDepth 100000 in
theorem c_People_addWords (l : Launch) (D : va_G) {sh : s_S} {M : s_M} {sz p : Int} {V B N Lw Pb : Int → Int} (h : ppl sh M p V B N Lw Pb) {a : Int} {K : Nat} {t : List Int} (ht : tv sh M a K t) {r : Int} {u : List Int} (hr : tv sh M r 60 u) (hd : p + 4 < a ∧ p + 4 < r) (har : a + 1 < r ∨ r + 1 < a) {b e : Int} (hb : 0 ≤ b ∧ b ≤ 60) (he : 0 ≤ e ∧ e ≤ 60) (hB : bnk B N b e) : Sp l D y_People_addWords prog_7_method_16_code 6 none 3 0 0 [vr p, vr a, vi b, vi e, vr r] sh M sz (fun v' sh' M' sz' => v' = none ∧ sh' = sh ∧ sz' = sz ∧ tv sh M' r 60 (awd t B N b e u) ∧ fr (fun z => z = r ∨ z = r + 1) M M') := by
  have hp0 : 0 ≤ p := h.1.2.2.2.2.2.2.2.2.2
  have hwb := h.1.2.2.2.2.2.1
  have hwe := h.1.2.2.2.2.2.2.1
  have hch := ht.rng
  have hln := ht.len
  have hlr := hr.len
  refine Sp.ofGo (own := "CiteForge$People") (nm := "addWords") (by decide) rfl rfl (Nat.le_of_ble_eq_true rfl) (lv := [(0, vr p), (1, vr a), (2, vi b), (3, vi e), (4, vr r)]) rfl ?_
  intro g X
  refine go_iload_n X d_People_addWords_0 rfl rfl ?_
  refine go_istore (lv' := [(5, vi b), (0, vr p), (1, vr a), (2, vi b), (3, vi e), (4, vr r)]) X d_People_addWords_1 (by decide) rfl ?_
  have lp : ∀ (fuel : Nat) (i : Int) (u1 : List Int) (Mx : s_M), (b ≤ i) → (i ≤ e ∨ i = b) → (ppl sh Mx p V B N Lw Pb) → (tv sh Mx a K t) → (tv sh Mx r 60 u1) → (fr (fun z => z = r ∨ z = r + 1) M Mx) → (it (aws t B N) (e - i).toNat i u1 = it (aws t B N) (e - b).toNat b u) → (e - i).toNat < fuel → Go g 0 0 sh Mx sz 3 [(0, vr p), (1, vr a), (3, vi e), (4, vr r), (5, vi i)] [] := by
    intro fuel
    induction fuel with
    | zero => intro i u1 Mx hi hi2 hpl hta htr hfr hp hm_lp; exact absurd hm_lp (Nat.not_lt_zero _)
    | succ fuel ih_lp =>
      intro i u1 Mx hi hi2 hpl hta htr hfr hp hm_lp
      have hwb1 := hpl.1.2.2.2.2.2.1
      have hwe1 := hpl.1.2.2.2.2.2.2.1
      have hl1 := htr.len
      refine go_iload X d_People_addWords_3 rfl ?_
      refine go_iload_n X d_People_addWords_5 rfl rfl ?_
      refine go_icmp_ge (tgt := 50) X d_People_addWords_6 rfl (by omega) (by omega) (fun hq1 => ?_) (fun hq1 => ?_)
      · skip
        refine go_vret X d_People_addWords_50 rfl (by omega) (by omega) ?_
        have hfin := it_fin (aws t B N) hp (by omega)
        rw [show awd t B N b e u = u1 from hfin]
        exact ⟨rfl, rfl, rfl, htr, hfr⟩
      · skip
        have hbn := hB i (by omega) (by omega)
        refine go_aload X d_People_addWords_9 rfl ?_
        refine go_cVf (st2 := [vi (u1.length : Int)]) (r := []) X k_People_31 (k_Text_size l D htr) hr.1.1 rfl rfl (by omega) (Nat.le_of_ble_eq_true rfl) d_People_addWords_11 (by omega) (by omega) rfl ?_
        refine go_if_le (tgt := 24) X d_People_addWords_14 rfl (by omega) (fun hq2 => ?_) (fun hq2 => ?_)
        · skip
          have hsp : spc u1 = u1 := if_neg (by omega)
          have tv3 : tv sh Mx r 60 (spc u1) := by rw [hsp]; exact htr
          have hl2 := tv3.len
          refine go_aload X d_People_addWords_24 rfl ?_
          refine go_aload_n X d_People_addWords_26 rfl rfl ?_
          refine go_aload_n X d_People_addWords_27 rfl rfl ?_
          refine go_get (v := vr (p + 1)) X f_People_9 h.1.1 rfl d_People_addWords_28 (s_varr hwb1 (by omega)) ?_
          refine go_iload X d_People_addWords_31 rfl ?_
          refine go_iald X h.1.2.1 (by omega) (by omega) d_People_addWords_33 ?_
          refine go_top (v' := vi (B i)) X (by rw [hpl.2.2.1]) ?_
          refine go_aload_n X d_People_addWords_34 rfl rfl ?_
          refine go_get (v := vr (p + 2)) X f_People_15 h.1.1 rfl d_People_addWords_35 (s_varr hwe1 (by omega)) ?_
          refine go_iload X d_People_addWords_38 rfl ?_
          refine go_iald X h.1.2.2.1 (by omega) (by omega) d_People_addWords_40 ?_
          refine go_top (v' := vi (N i)) X (by rw [hpl.2.2.2.1]) ?_
          refine go_cV (st2 := []) (r := []) X k_People_147 (c_Text_addPart l D tv3 hta (by omega) (by omega) (by omega)) hr.1.1 rfl rfl (by omega) (Nat.le_of_ble_eq_true rfl) d_People_addWords_41 (by omega) (by omega) (fun v sh' M4 sz' hp5 => ?_)
          obtain ⟨e6, e7, e8, tv9, fr10⟩ := hp5
          subst e6
          rw [e7, e8]
          show Go g 0 0 sh M4 sz 44 [(0, vr p), (1, vr a), (3, vi e), (4, vr r), (5, vi i)] []
          have e11 : M4 p 2 = p + 1 := (congrFun (fr10 p (by omega)) _).trans hwb1
          have e12 : M4 p 3 = p + 2 := (congrFun (fr10 p (by omega)) _).trans hwe1
          have tv13 := hta.kept (fr10 a (by omega)) (fr10 (a + 1) (by omega))
          have fr14 : fr (fun z => z = r ∨ z = r + 1) M M4 := fun z hz => by
            have hz1 : ¬ (z = r ∨ z = r + 1) := hz
            exact (fr10 z (by omega)).trans (hfr z hz)
          have rw15 : M4 (p + 1) = B := (fr10 (p + 1) (by omega)).trans hpl.2.2.1
          have rw16 : M4 (p + 2) = N := (fr10 (p + 2) (by omega)).trans hpl.2.2.2.1
          clear fr10 tv3
          have hpl9 : ppl sh M4 p V B N Lw Pb := h.mv (fun z z1 z2 => ⟨rfl, fr14 z (by show ¬ (z = r ∨ z = r + 1); omega)⟩)
          have hn := it_nxt (aws t B N) hp (by omega) rfl
          refine go_iinc (v := 1) (x := i) (lv' := [(5, vi (i + 1)), (0, vr p), (1, vr a), (3, vi e), (4, vr r)]) X d_People_addWords_44 rfl (by decide) rfl ?_
          refine go_goto (tgt := 3) X d_People_addWords_47 rfl ?_
          refine go_lv (lv' := [(0, vr p), (1, vr a), (3, vi e), (4, vr r), (5, vi (i + 1))]) X [1, 2, 3, 4, 0] rfl ?_
          exact ih_lp (i + 1) ((spc u1) ++ sl t (max (B i) 0) (min (min (N i) (t.length : Int) - max (B i) 0) ((60 : Int) - (spc u1).length))) M4 (by omega) (by omega) hpl9 tv13 tv9 fr14 hn (by omega)
        · skip
          refine go_aload X d_People_addWords_17 rfl ?_
          refine go_bipush (v := 32) X d_People_addWords_19 (by decide) ?_
          refine go_cV (st2 := []) (r := []) X k_People_143 (k_Text_add l D htr (by omega)) hr.1.1 rfl rfl (by omega) (Nat.le_of_ble_eq_true rfl) d_People_addWords_21 (by omega) (by omega) (fun v sh' M17 sz' hp18 => ?_)
          obtain ⟨e19, e20, e21, tv22, fr23⟩ := hp18
          subst e19
          rw [e20, e21]
          show Go g 0 0 sh M17 sz 24 [(0, vr p), (1, vr a), (3, vi e), (4, vr r), (5, vi i)] []
          have e24 : M17 p 2 = p + 1 := (congrFun (fr23 p (by omega)) _).trans hwb1
          have e25 : M17 p 3 = p + 2 := (congrFun (fr23 p (by omega)) _).trans hwe1
          have tv26 := hta.kept (fr23 a (by omega)) (fr23 (a + 1) (by omega))
          have fr27 : fr (fun z => z = r ∨ z = r + 1) M M17 := fun z hz => by
            have hz1 : ¬ (z = r ∨ z = r + 1) := hz
            exact (fr23 z (by omega)).trans (hfr z hz)
          have rw28 : M17 (p + 1) = B := (fr23 (p + 1) (by omega)).trans hpl.2.2.1
          have rw29 : M17 (p + 2) = N := (fr23 (p + 2) (by omega)).trans hpl.2.2.2.1
          clear fr23
          have hsp : spc u1 = ta 60 u1 32 := if_pos (by omega)
          have tv30 : tv sh M17 r 60 (spc u1) := by rw [hsp]; exact tv22
          have hl2 := tv30.len
          refine go_aload X d_People_addWords_24 rfl ?_
          refine go_aload_n X d_People_addWords_26 rfl rfl ?_
          refine go_aload_n X d_People_addWords_27 rfl rfl ?_
          refine go_get (v := vr (p + 1)) X f_People_9 h.1.1 rfl d_People_addWords_28 (s_varr e24 (by omega)) ?_
          refine go_iload X d_People_addWords_31 rfl ?_
          refine go_iald X h.1.2.1 (by omega) (by omega) d_People_addWords_33 ?_
          refine go_top (v' := vi (B i)) X (by rw [rw28]) ?_
          refine go_aload_n X d_People_addWords_34 rfl rfl ?_
          refine go_get (v := vr (p + 2)) X f_People_15 h.1.1 rfl d_People_addWords_35 (s_varr e25 (by omega)) ?_
          refine go_iload X d_People_addWords_38 rfl ?_
          refine go_iald X h.1.2.2.1 (by omega) (by omega) d_People_addWords_40 ?_
          refine go_top (v' := vi (N i)) X (by rw [rw29]) ?_
          refine go_cV (st2 := []) (r := []) X k_People_147 (c_Text_addPart l D tv30 tv26 (by omega) (by omega) (by omega)) hr.1.1 rfl rfl (by omega) (Nat.le_of_ble_eq_true rfl) d_People_addWords_41 (by omega) (by omega) (fun v sh' M31 sz' hp32 => ?_)
          obtain ⟨e33, e34, e35, tv36, fr37⟩ := hp32
          subst e33
          rw [e34, e35]
          show Go g 0 0 sh M31 sz 44 [(0, vr p), (1, vr a), (3, vi e), (4, vr r), (5, vi i)] []
          have e38 : M31 p 2 = p + 1 := (congrFun (fr37 p (by omega)) _).trans e24
          have e39 : M31 p 3 = p + 2 := (congrFun (fr37 p (by omega)) _).trans e25
          have tv40 := tv26.kept (fr37 a (by omega)) (fr37 (a + 1) (by omega))
          have fr41 : fr (fun z => z = r ∨ z = r + 1) M M31 := fun z hz => by
            have hz1 : ¬ (z = r ∨ z = r + 1) := hz
            exact (fr37 z (by omega)).trans (fr27 z hz)
          have rw42 : M31 (p + 1) = B := (fr37 (p + 1) (by omega)).trans rw28
          have rw43 : M31 (p + 2) = N := (fr37 (p + 2) (by omega)).trans rw29
          clear e24 e25 fr27 fr37 rw28 rw29 tv26 tv30
          have hpl9 : ppl sh M31 p V B N Lw Pb := h.mv (fun z z1 z2 => ⟨rfl, fr41 z (by show ¬ (z = r ∨ z = r + 1); omega)⟩)
          have hn := it_nxt (aws t B N) hp (by omega) rfl
          refine go_iinc (v := 1) (x := i) (lv' := [(5, vi (i + 1)), (0, vr p), (1, vr a), (3, vi e), (4, vr r)]) X d_People_addWords_44 rfl (by decide) rfl ?_
          refine go_goto (tgt := 3) X d_People_addWords_47 rfl ?_
          refine go_lv (lv' := [(0, vr p), (1, vr a), (3, vi e), (4, vr r), (5, vi (i + 1))]) X [1, 2, 3, 4, 0] rfl ?_
          exact ih_lp (i + 1) ((spc u1) ++ sl t (max (B i) 0) (min (min (N i) (t.length : Int) - max (B i) 0) ((60 : Int) - (spc u1).length))) M31 (by omega) (by omega) hpl9 tv40 tv36 fr41 hn (by omega)
  refine go_lv (lv' := [(0, vr p), (1, vr a), (3, vi e), (4, vr r), (5, vi b)]) X [1, 2, 4, 5, 0] rfl ?_
  exact lp _ b u M (by omega) (by omega) h ht hr (fun z _ => rfl) rfl (Nat.lt_succ_self _)
