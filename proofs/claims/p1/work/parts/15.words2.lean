/-! Words. -/
theorem it_nxt {σ : Type} (f : Int → σ → σ) {i len : Int} {s s' F : σ} (hp : it f (len - i).toNat i s = F) (h : i < len) (he : f i s = s') : it f (len - (i + 1)).toNat (i + 1) s' = F := by
  rw [it_step f h, he] at hp
  exact hp
theorem it_fin {σ : Type} (f : Int → σ → σ) {i len : Int} {s F : σ} (hp : it f (len - i).toNat i s = F) (h : len ≤ i) : F = s := by
  rw [it_end f h] at hp
  exact hp.symm
theorem it_stop {σ : Type} (f : Int → σ → σ) {i len : Int} {s s' F : σ} (hp : it f (len - i).toNat i s = F) (h : i < len) (he : f i s = s') (ha : ∀ j, f j s' = s') : F = s' := by
  rw [it_step f h, he, it_abs f ha] at hp
  exact hp.symm
theorem it_stay {σ : Type} (f : Int → σ → σ) {i len : Int} {s F : σ} (hp : it f (len - i).toNat i s = F) (ha : ∀ j, f j s = s) : F = s := by
  rw [it_abs f ha] at hp
  exact hp.symm
theorem p_low_b {c : Int} (h : 0 ≤ c ∧ c < 256) : 0 ≤ p_low c ∧ p_low c < 256 := by
  unfold p_low
  split
  · rename_i h1
    simp only [p_cap, decide_eq_true_eq] at h1
    omega
  · omega
theorem pw_next {w c i : Int} (hw : 0 ≤ w ∧ w < pow8 i) (hc : 0 ≤ c ∧ c < 256) (hi : 0 ≤ i) : 0 ≤ w + c * pow8 i ∧ w + c * pow8 i < pow8 (i + 1) := by
  have h1 := pow8_pos i
  have h2 : c * pow8 i ≤ 255 * pow8 i := Int.mul_le_mul_of_nonneg_right (by omega) (by omega)
  have h3 : 0 ≤ c * pow8 i := Int.mul_nonneg hc.1 (by omega)
  rw [pow8_succ hi]
  omega
/-- the word that a long tells: going on (0), ended (1), none (2) -/
def wst (x : Int) (i : Int) (s : Int × Int) : Int × Int := if s.1 = 0 then (if p_prn (by_ x i) = true then (if p_wc (by_ x i) = true then (0, s.2 + p_low (by_ x i) * pow8 i) else (2, 0)) else (1, s.2)) else s
def wof (x : Int) : Int := (it (wst x) ((8 : Int) - 0).toNat 0 (0, 0)).2
theorem wst_abs (x : Int) {s : Int × Int} (h : s.1 ≠ 0) : ∀ i, wst x i s = s := fun i => if_neg h
/-- the model's, that asks for no letters -/
def mst (x : Int) (i : Int) (s : Bool × Int) : Bool × Int := if s.1 = true then (if p_prn (by_ x i) = true then (true, s.2 + p_low (by_ x i) * pow8 i) else (false, s.2)) else s
def mwof (x : Int) : Int := (it (mst x) ((8 : Int) - 0).toNat 0 (true, 0)).2
/-- the characters that a long tells -/
def ust (x : Int) (i : Int) (s : Bool × List Int) : Bool × List Int := if s.1 = true then (if p_prn (by_ x i) = true then (true, s.2 ++ [by_ x i]) else (false, s.2)) else s
def uof (x : Int) : List Int := (it (ust x) ((8 : Int) - 0).toNat 0 (true, [])).2
set_option maxHeartbeats 4000000 in
set_option maxRecDepth 100000 in
theorem c_wordOf (l : Launch) (D : va_G) {sh : s_S} {M : s_M} {sz x : Int} (hx : 0 ≤ x ∧ x < 18446744073709551616) : Sp l D y_CiteForge_wordOf prog_1_method_34_code 6 (some .long) 3 0 0 [vl x] sh M sz (pF (some (vl (wof x))) sh M sz) := by
  refine Sp.ofGo (own := "CiteForge") (nm := "wordOf") (by decide) rfl rfl (Nat.le_of_ble_eq_true rfl) (lv := [(0, vl x)]) rfl ?_
  intro g X
  refine go_lconst (x := 0) X d_CiteForge_wordOf_0 (by decide) ?_
  refine go_lstore_n (lv' := [(2, vl 0), (0, vl x)]) X d_CiteForge_wordOf_1 rfl (by decide) rfl ?_
  refine go_iconst (v := 0) X d_CiteForge_wordOf_2 ?_
  refine go_istore (lv' := [(4, vi 0), (2, vl 0), (0, vl x)]) X d_CiteForge_wordOf_3 (by decide) rfl ?_
  have loop : ∀ (fuel : Nat) (i : Int) (w : Int), (0 ≤ i) → (i ≤ 8) → (0 ≤ w ∧ w < pow8 i) → (it (wst x) ((8 : Int) - i).toNat i (0, w) = it (wst x) ((8 : Int) - 0).toNat 0 (0, 0)) → ((8 : Int) - i).toNat < fuel → Go g 0 0 sh M sz 5 [(0, vl x), (2, vl w), (4, vi i)] [] := by
    intro fuel
    induction fuel with
    | zero => intro i w hi hi2 hw hp hm_loop; exact absurd hm_loop (Nat.not_lt_zero _)
    | succ fuel ih_loop =>
      intro i w hi hi2 hw hp hm_loop
      refine go_iload X d_CiteForge_wordOf_5 rfl ?_
      refine go_bipush (v := 8) X d_CiteForge_wordOf_7 (by decide) ?_
      refine go_icmp_ge (tgt := 61) X d_CiteForge_wordOf_9 rfl (by omega) (by omega) (fun hq1 => ?_) (fun hq1 => ?_)
      · skip
        refine go_lload_n X d_CiteForge_wordOf_61 rfl rfl ?_
        refine go_lret X d_CiteForge_wordOf_62 rfl (by omega) (by omega) ?_
        refine ⟨?_, rfl, rfl, rfl⟩
        unfold wof
        rw [it_fin (wst x) hp (by omega)]
      · skip
        refine go_lload_n X d_CiteForge_wordOf_12 rfl rfl ?_
        refine go_iload X d_CiteForge_wordOf_13 rfl ?_
        refine go_cSf (st2 := [vi (by_ x i)]) (r := []) X k_CiteForge_240 (c_byteOf l D (by omega) (by omega)) rfl rfl (by omega) (Nat.le_of_ble_eq_true rfl) d_CiteForge_wordOf_15 (by omega) (by omega) rfl ?_
        have hb0 := by_r x i
        have hb1 := p_low_b hb0
        refine go_istore (lv' := [(5, vi (by_ x i)), (0, vl x), (2, vl w), (4, vi i)]) X d_CiteForge_wordOf_18 (by decide) rfl ?_
        refine go_iload X d_CiteForge_wordOf_20 rfl ?_
        refine go_cSf (st2 := [vi (s_b (p_prn (by_ x i)))]) (r := []) X k_CiteForge_244 (c_isPrintable l D (by omega)) rfl rfl (by omega) (Nat.le_of_ble_eq_true rfl) d_CiteForge_wordOf_22 (by omega) (by omega) rfl ?_
        refine go_ifb_ne (tgt := 30) X d_CiteForge_wordOf_25 rfl (fun hq2 => ?_) (fun hq2 => ?_)
        · skip
          refine go_iload X d_CiteForge_wordOf_30 rfl ?_
          refine go_cSf (st2 := [vi (s_b (p_wc (by_ x i)))]) (r := []) X k_CiteForge_247 (c_isWordCharacter l D (by omega)) rfl rfl (by omega) (Nat.le_of_ble_eq_true rfl) d_CiteForge_wordOf_32 (by omega) (by omega) rfl ?_
          refine go_ifb_ne (tgt := 40) X d_CiteForge_wordOf_35 rfl (fun hq3 => ?_) (fun hq3 => ?_)
          · skip
            refine go_lload_n X d_CiteForge_wordOf_40 rfl rfl ?_
            refine go_iload X d_CiteForge_wordOf_41 rfl ?_
            refine go_cSf (st2 := [vi (p_low (by_ x i)), vl w]) (r := [vl w]) X k_CiteForge_250 (c_smallOf l D (by omega)) rfl rfl (by omega) (Nat.le_of_ble_eq_true rfl) d_CiteForge_wordOf_43 (by omega) (by omega) rfl ?_
            refine go_i2l X d_CiteForge_wordOf_46 (by omega) ?_
            refine go_bipush (v := 8) X d_CiteForge_wordOf_47 (by decide) ?_
            refine go_iload X d_CiteForge_wordOf_49 rfl ?_
            refine go_imul X d_CiteForge_wordOf_51 ?_
            refine go_lshl (z := (p_low (by_ x i)) * pow8 i) X d_CiteForge_wordOf_52 (l_shl (by omega) (by omega)) ?_
            refine go_lor (z := w + (p_low (by_ x i)) * pow8 i) X d_CiteForge_wordOf_53 (l_or (by omega) (by omega) (by omega)) ?_
            refine go_lstore_n (lv' := [(2, vl (w + (p_low (by_ x i)) * pow8 i)), (5, vi (by_ x i)), (0, vl x), (4, vi i)]) X d_CiteForge_wordOf_54 rfl (by decide) rfl ?_
            have hn := it_nxt (wst x) (s' := (0, w + p_low (by_ x i) * pow8 i)) hp (by omega) (by simp [wst, hq2, hq3])
            refine go_iinc (v := 1) (x := i) (lv' := [(4, vi (i + 1)), (2, vl (w + (p_low (by_ x i)) * pow8 i)), (5, vi (by_ x i)), (0, vl x)]) X d_CiteForge_wordOf_55 rfl (by decide) rfl ?_
            refine go_goto (tgt := 5) X d_CiteForge_wordOf_58 rfl ?_
            refine go_lv (lv' := [(0, vl x), (2, vl (w + (p_low (by_ x i)) * pow8 i)), (4, vi (i + 1))]) X [3, 1, 0] rfl ?_
            exact ih_loop (i + 1) (w + (p_low (by_ x i)) * pow8 i) (by omega) (by omega) (pw_next hw hb1 (by omega)) hn (by omega)
          · skip
            refine go_lconst (x := 0) X d_CiteForge_wordOf_38 (by decide) ?_
            refine go_lret X d_CiteForge_wordOf_39 rfl (by omega) (by omega) ?_
            refine ⟨?_, rfl, rfl, rfl⟩
            unfold wof
            rw [it_stop (wst x) (s' := (2, 0)) hp (by omega) (by simp [wst, hq2, hq3]) (fun j => if_neg (show ¬ (2 : Int) = 0 by decide))]
        · skip
          refine go_lload_n X d_CiteForge_wordOf_28 rfl rfl ?_
          refine go_lret X d_CiteForge_wordOf_29 rfl (by omega) (by omega) ?_
          refine ⟨?_, rfl, rfl, rfl⟩
          unfold wof
          rw [it_stop (wst x) (s' := (1, w)) hp (by omega) (by simp [wst, hq2]) (fun j => if_neg (show ¬ (1 : Int) = 0 by decide))]
  refine go_lv (lv' := [(0, vl x), (2, vl 0), (4, vi 0)]) X [2, 1, 0] rfl ?_
  exact loop _ 0 0 (by omega) (by omega) (by decide) rfl (Nat.lt_succ_self _)
set_option maxHeartbeats 4000000 in
set_option maxRecDepth 100000 in
theorem m_wordOf (l : Launch) (D : va_G) {sh : s_S} {M : s_M} {sz x : Int} (hx : 0 ≤ x ∧ x < 18446744073709551616) : Sp l D y_Model_wordOf prog_14_method_15_code 7 (some .long) 3 0 0 [vl x] sh M sz (pF (some (vl (mwof x))) sh M sz) := by
  refine Sp.ofGo (own := "CiteForgeModel") (nm := "wordOf") (by decide) rfl rfl (Nat.le_of_ble_eq_true rfl) (lv := [(0, vl x)]) rfl ?_
  intro g X
  refine go_lconst (x := 0) X d_Model_wordOf_0 (by decide) ?_
  refine go_lstore_n (lv' := [(2, vl 0), (0, vl x)]) X d_Model_wordOf_1 rfl (by decide) rfl ?_
  refine go_iconst (v := 1) X d_Model_wordOf_2 ?_
  refine go_istore (lv' := [(4, vi 1), (2, vl 0), (0, vl x)]) X d_Model_wordOf_3 (by decide) rfl ?_
  refine go_iconst (v := 0) X d_Model_wordOf_5 ?_
  refine go_istore (lv' := [(5, vi 0), (4, vi 1), (2, vl 0), (0, vl x)]) X d_Model_wordOf_6 (by decide) rfl ?_
  have loop : ∀ (fuel : Nat) (i : Int) (mo : Bool) (w : Int), (0 ≤ i) → (i ≤ 8) → (mo = true → 0 ≤ w ∧ w < pow8 i) → (it (mst x) ((8 : Int) - i).toNat i (mo, w) = it (mst x) ((8 : Int) - 0).toNat 0 (true, 0)) → ((8 : Int) - i).toNat < fuel → Go g 0 0 sh M sz 8 [(0, vl x), (2, vl w), (4, vi (s_b mo)), (5, vi i)] [] := by
    intro fuel
    induction fuel with
    | zero => intro i mo w hi hi2 hw hp hm_loop; exact absurd hm_loop (Nat.not_lt_zero _)
    | succ fuel ih_loop =>
      intro i mo w hi hi2 hw hp hm_loop
      refine go_iload X d_Model_wordOf_8 rfl ?_
      refine go_bipush (v := 8) X d_Model_wordOf_10 (by decide) ?_
      refine go_icmp_ge (tgt := 71) X d_Model_wordOf_12 rfl (by omega) (by omega) (fun hq1 => ?_) (fun hq1 => ?_)
      · skip
        refine go_lload_n X d_Model_wordOf_71 rfl rfl ?_
        refine go_lret X d_Model_wordOf_72 rfl (by omega) (by omega) ?_
        refine ⟨?_, rfl, rfl, rfl⟩
        unfold mwof
        rw [it_fin (mst x) hp (by omega)]
      · skip
        refine go_iload X d_Model_wordOf_15 rfl ?_
        refine go_ifb_eq (tgt := 71) X d_Model_wordOf_17 rfl (fun hq2 => ?_) (fun hq2 => ?_)
        · skip
          refine go_lload_n X d_Model_wordOf_71 rfl rfl ?_
          refine go_lret X d_Model_wordOf_72 rfl (by omega) (by omega) ?_
          refine ⟨?_, rfl, rfl, rfl⟩
          unfold mwof
          rw [it_stay (mst x) hp (fun z => if_neg (by show ¬ mo = true; rw [hq2]; decide))]
        · skip
          have hmo : mo = true := hq2
          have hw1 := hw hmo
          refine go_lload_n X d_Model_wordOf_20 rfl rfl ?_
          refine go_bipush (v := 8) X d_Model_wordOf_21 (by decide) ?_
          refine go_iload X d_Model_wordOf_23 rfl ?_
          refine go_imul X d_Model_wordOf_25 ?_
          refine go_lshr (z := s_sar x (8 * i)) X d_Model_wordOf_26 (l_sar _ _) ?_
          refine go_ldc2 (x := 255) X w_kl_Model_114 (by decide) d_Model_wordOf_27 ?_
          refine go_land (z := by_ x i) X d_Model_wordOf_30 (l_sarby (by omega) (by omega)) ?_
          refine go_l2i X d_Model_wordOf_31 ?_
          have hb0 := by_r x i
          have hb1 := p_low_b hb0
          refine go_istore (lv' := [(6, vi (by_ x i)), (0, vl x), (2, vl w), (4, vi (s_b mo)), (5, vi i)]) X d_Model_wordOf_32 (by decide) rfl ?_
          refine go_iload X d_Model_wordOf_34 rfl ?_
          refine go_bipush (v := 32) X d_Model_wordOf_36 (by decide) ?_
          refine go_bipush (v := 126) X d_Model_wordOf_38 (by decide) ?_
          refine go_cSf (st2 := [vi (s_b (decide (32 ≤ by_ x i ∧ by_ x i ≤ 126)))]) (r := []) X k_Model_103 (m_within l D (by omega) (by omega) (by omega)) rfl rfl (by omega) (Nat.le_of_ble_eq_true rfl) d_Model_wordOf_40 (by omega) (by omega) rfl ?_
          refine go_top (v' := vi (s_b (p_prn (by_ x i)))) X rfl ?_
          refine go_istore (lv' := [(4, vi (s_b (p_prn (by_ x i)))), (6, vi (by_ x i)), (0, vl x), (2, vl w), (5, vi i)]) X d_Model_wordOf_43 (by decide) rfl ?_
          refine go_iload X d_Model_wordOf_45 rfl ?_
          refine go_ifb_eq (tgt := 65) X d_Model_wordOf_47 rfl (fun hq3 => ?_) (fun hq3 => ?_)
          · skip
            have hn := it_nxt (mst x) (s' := (p_prn (by_ x i), w)) hp (by omega) (by simp [mst, hmo, hq3])
            have hwk : p_prn (by_ x i) = true → 0 ≤ w ∧ w < pow8 (i + 1) := fun z => by rw [hq3] at z; exact absurd z (by decide)
            refine go_iinc (v := 1) (x := i) (lv' := [(5, vi (i + 1)), (4, vi (s_b (p_prn (by_ x i)))), (6, vi (by_ x i)), (0, vl x), (2, vl w)]) X d_Model_wordOf_65 rfl (by decide) rfl ?_
            refine go_goto (tgt := 8) X d_Model_wordOf_68 rfl ?_
            refine go_lv (lv' := [(0, vl x), (2, vl w), (4, vi (s_b (p_prn (by_ x i)))), (5, vi (i + 1))]) X [3, 4, 1, 0] rfl ?_
            exact ih_loop (i + 1) (p_prn (by_ x i)) w (by omega) (by omega) hwk hn (by omega)
          · skip
            refine go_lload_n X d_Model_wordOf_50 rfl rfl ?_
            refine go_iload X d_Model_wordOf_51 rfl ?_
            refine go_cSf (st2 := [vi (p_low (by_ x i)), vl w]) (r := [vl w]) X k_Model_116 (m_small l D (by omega)) rfl rfl (by omega) (Nat.le_of_ble_eq_true rfl) d_Model_wordOf_53 (by omega) (by omega) rfl ?_
            refine go_i2l X d_Model_wordOf_56 (by omega) ?_
            refine go_bipush (v := 8) X d_Model_wordOf_57 (by decide) ?_
            refine go_iload X d_Model_wordOf_59 rfl ?_
            refine go_imul X d_Model_wordOf_61 ?_
            refine go_lshl (z := (p_low (by_ x i)) * pow8 i) X d_Model_wordOf_62 (l_shl (by omega) (by omega)) ?_
            refine go_lor (z := w + (p_low (by_ x i)) * pow8 i) X d_Model_wordOf_63 (l_or (by omega) (by omega) (by omega)) ?_
            refine go_lstore_n (lv' := [(2, vl (w + (p_low (by_ x i)) * pow8 i)), (4, vi (s_b (p_prn (by_ x i)))), (6, vi (by_ x i)), (0, vl x), (5, vi i)]) X d_Model_wordOf_64 rfl (by decide) rfl ?_
            have hn := it_nxt (mst x) (s' := (p_prn (by_ x i), w + p_low (by_ x i) * pow8 i)) hp (by omega) (by simp [mst, hmo, hq3])
            refine go_iinc (v := 1) (x := i) (lv' := [(5, vi (i + 1)), (2, vl (w + (p_low (by_ x i)) * pow8 i)), (4, vi (s_b (p_prn (by_ x i)))), (6, vi (by_ x i)), (0, vl x)]) X d_Model_wordOf_65 rfl (by decide) rfl ?_
            refine go_goto (tgt := 8) X d_Model_wordOf_68 rfl ?_
            refine go_lv (lv' := [(0, vl x), (2, vl (w + (p_low (by_ x i)) * pow8 i)), (4, vi (s_b (p_prn (by_ x i)))), (5, vi (i + 1))]) X [4, 1, 2, 0] rfl ?_
            exact ih_loop (i + 1) (p_prn (by_ x i)) (w + (p_low (by_ x i)) * pow8 i) (by omega) (by omega) (fun _ => pw_next (hw hmo) hb1 (by omega)) hn (by omega)
  refine go_lv (lv' := [(0, vl x), (2, vl 0), (4, vi 1), (5, vi 0)]) X [3, 2, 1, 0] rfl ?_
  exact loop _ 0 true 0 (by omega) (by omega) (fun _ => by decide) rfl (Nat.lt_succ_self _)
