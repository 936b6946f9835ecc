theorem civ.zero {sh : s_S} {M : s_M} {p s w n m : Int} {W L : Int → Int} (h : civ sh M p s w n m W L) : civ sh (m_s M p 5 0) p s w n 0 W L := by
  obtain ⟨q1, q2, q3, q4, q5, q6, q7, q8, q9, q10, q11, q12, q13, q14, q15, q16, q17, q18, q19⟩ := h
  refine ⟨q1, q2, q3, q4, (m_s_n (fun q => absurd q.2 (by decide))).trans q5, (m_s_n (fun q => absurd q.2 (by decide))).trans q6, (m_s_n (fun q => absurd q.2 (by decide))).trans q7, (m_s_n (fun q => absurd q.2 (by decide))).trans q8, (m_s_n (fun q => absurd q.2 (by decide))).trans q9, m_s_s, q11, by decide, q13, q14, q15, q16, (m_s_a (by omega)).trans q17, q18, fun i h1 h2 => absurd h2 (by omega)⟩
/-- how many of the first entries of the list name a key -/
def rfs (E : Int → sen) (L : Int → Int) (v : Int) (i c : Int) : Int := if (E (L i)).1.2.2.1 = v then c + 1 else c
def rfc (E : Int → sen) (L : Int → Int) (v k : Int) : Int := it (rfs E L v) (k - 0).toNat 0 0
abbrev lst : Type := Int × (Int → Int) × (Int → Int) × (Int → sen)
/-- the list: its size, its entries, the warnings, the entries' state -/
def lal (q : Int) (st : lst) : lst := (if st.1 < 8 then st.1 + 1 else st.1, if st.1 < 8 then rset st.2.1 st.1 q else st.2.1, st.2.2.1, if st.1 < 8 then eset st.2.2.2 q (srt (st.2.2.2 q)) else st.2.2.2)
def mla (WC : Int → Int) (ns : Int) (i : Int) (st : lst) : lst := if 0 ≤ fx (kE st.2.2.2) ns (WC i) then lal (fx (kE st.2.2.2) ns (WC i)) st else (st.1, st.2.1, inc st.2.2.1 6, st.2.2.2)
def mlb (WC : Int → Int) (n mn ce : Int) (i : Int) (st : lst) : lst := if 0 ≤ fx WC n (kE st.2.2.2 i) then st else if rfc st.2.2.2 st.2.1 (kE st.2.2.2 i) ce < mn then st else lal i st
def ml1 (WC : Int → Int) (n ns : Int) (st : lst) : lst := it (mla WC ns) (n - 0).toNat 0 st
def ml2 (WC : Int → Int) (n ns mn : Int) (st : lst) : lst := it (mlb WC n mn st.1) (ns - 0).toNat 0 st
def mkl (WC : Int → Int) (n ns mn : Int) (st : lst) : lst := ml2 WC n ns mn (ml1 WC n ns st)
set_option maxHeartbeats 4000000 in
set_option maxRecDepth 100000 in
theorem c_Citations_referring (l : Launch) (D : va_G) {sh : s_S} {M : s_M} {sz p s w n m : Int} {W L : Int → Int} (h : civ sh M p s w n m W L) {ns : Int} {E : Int → sen} (hsh : shv sh M s w ns E) {v ce : Int} (hv : rL v) (hce : 0 ≤ ce ∧ ce ≤ m) : Sp l D y_Citations_referring prog_2_method_13_code 6 (some .int) 1 0 0 [vr p, vl v, vi ce] sh M sz (pF (some (vi (rfc E L v ce))) sh M sz) := by
  have h1 := h.1
  have h3 := h.2.2.1
  have h8 := h.2.2.2.2.2.2.2.1
  have h12 := h.2.2.2.2.2.2.2.2.2.2.2.1
  have h13 := h.2.2.2.2.2.2.2.2.2.2.2.2.1
  have h16 := h.2.2.2.2.2.2.2.2.2.2.2.2.2.2.2.1
  have h19 := h.2.2.2.2.2.2.2.2.2.2.2.2.2.2.2.2.2.2
  refine Sp.ofGo (own := "CiteForge$Citations") (nm := "referring") (by decide) rfl rfl (Nat.le_of_ble_eq_true rfl) (lv := [(0, vr p), (1, vl v), (3, vi ce)]) rfl ?_
  intro g X
  refine go_iconst (v := 0) X d_Citations_referring_0 ?_
  refine go_istore (lv' := [(4, vi 0), (0, vr p), (1, vl v), (3, vi ce)]) X d_Citations_referring_1 (by decide) rfl ?_
  refine go_iconst (v := 0) X d_Citations_referring_3 ?_
  refine go_istore (lv' := [(5, vi 0), (4, vi 0), (0, vr p), (1, vl v), (3, vi ce)]) X d_Citations_referring_4 (by decide) rfl ?_
  have loop : ∀ (fuel : Nat) (i : Int) (c : Int), (0 ≤ i) → (i ≤ ce) → (0 ≤ c ∧ c ≤ i) → (it (rfs E L v) (ce - i).toNat i c = rfc E L v ce) → (ce - i).toNat < fuel → Go g 0 0 sh M sz 6 [(0, vr p), (1, vl v), (3, vi ce), (4, vi c), (5, vi i)] [] := by
    intro fuel
    induction fuel with
    | zero => intro i c hi hi2 hc hp hm_loop; exact absurd hm_loop (Nat.not_lt_zero _)
    | succ fuel ih_loop =>
      intro i c hi hi2 hc hp hm_loop
      refine go_iload X d_Citations_referring_6 rfl ?_
      refine go_iload_n X d_Citations_referring_8 rfl rfl ?_
      refine go_icmp_ge (tgt := 36) X d_Citations_referring_9 rfl (by omega) (by omega) (fun hq1 => ?_) (fun hq1 => ?_)
      · skip
        refine go_iload X d_Citations_referring_36 rfl ?_
        refine go_iret X d_Citations_referring_38 rfl ?_ (by omega) (by omega) ?_
        · rfl
        exact ⟨by rw [it_fin (rfs E L v) hp (by omega)], rfl, rfl, rfl⟩
      · skip
        refine go_aload_n X d_Citations_referring_12 rfl rfl ?_
        refine go_get (v := vr (p + 2)) X f_Citations_27 h1 rfl d_Citations_referring_13 (s_varr h8 (by omega)) ?_
        refine go_iload X d_Citations_referring_16 rfl ?_
        obtain ⟨hL1, hL2⟩ := h19 i (by omega) (by omega)
        obtain ⟨er, en⟩ := hsh.ent (i := L i) (by omega) (by omega)
        have ec := en.2.2.2.2.2.1
        have rlc := en.2.2.2.2.2.2.2.2.2.2.2.2.2.2.1.2.2
        refine go_aald X h3 (by omega) (by omega) d_Citations_referring_18 ?_
        refine go_top (v' := vr (s + 2 + 17 * L i)) X (s_qref hL2 (by omega)) ?_
        refine go_get (v := vl ((E (L i)).1.2.2.1)) X f_Citations_79 en.1 rfl d_Citations_referring_19 (congrArg (s_v .long) ec) ?_
        refine go_lload_n X d_Citations_referring_22 rfl rfl ?_
        refine go_lcmp X (by omega) (by omega) d_Citations_referring_23 ?_
        have hc0 := s_cmp_rng (E (L i)).1.2.2.1 v
        refine go_if_ne (tgt := 30) X d_Citations_referring_24 rfl (by omega) (fun hq2 => ?_) (fun hq2 => ?_)
        · skip
          have hn := it_nxt (rfs E L v) (s' := c) hp (by omega) (if_neg (fun q => hq2 (by rw [q]; unfold s_cmp; rw [if_neg (by omega), if_pos rfl])))
          refine go_iinc (v := 1) (x := i) (lv' := [(5, vi (i + 1)), (0, vr p), (1, vl v), (3, vi ce), (4, vi c)]) X d_Citations_referring_30 rfl (by decide) rfl ?_
          refine go_goto (tgt := 6) X d_Citations_referring_33 rfl ?_
          refine go_lv (lv' := [(0, vr p), (1, vl v), (3, vi ce), (4, vi c), (5, vi (i + 1))]) X [1, 2, 3, 4, 0] rfl ?_
          exact ih_loop (i + 1) c (by omega) (by omega) (by omega) hn (by omega)
        · skip
          refine go_iinc (v := 1) (x := c) (lv' := [(4, vi (c + 1)), (0, vr p), (1, vl v), (3, vi ce), (5, vi i)]) X d_Citations_referring_27 rfl (by decide) rfl ?_
          have hn := it_nxt (rfs E L v) (s' := c + 1) hp (by omega) (if_pos (s_cmp0 hq2))
          refine go_iinc (v := 1) (x := i) (lv' := [(5, vi (i + 1)), (4, vi (c + 1)), (0, vr p), (1, vl v), (3, vi ce)]) X d_Citations_referring_30 rfl (by decide) rfl ?_
          refine go_goto (tgt := 6) X d_Citations_referring_33 rfl ?_
          refine go_lv (lv' := [(0, vr p), (1, vl v), (3, vi ce), (4, vi (c + 1)), (5, vi (i + 1))]) X [2, 3, 4, 1, 0] rfl ?_
          exact ih_loop (i + 1) (c + 1) (by omega) (by omega) (by omega) hn (by omega)
  refine go_lv (lv' := [(0, vr p), (1, vl v), (3, vi ce), (4, vi 0), (5, vi 0)]) X [2, 3, 4, 1, 0] rfl ?_
  exact loop _ 0 0 (by omega) (by omega) (by omega) rfl (Nat.lt_succ_self _)
theorem rfc_rng {E : Int → sen} {L : Int → Int} {v k : Int} (h : 0 ≤ k) : 0 ≤ rfc E L v k ∧ rfc E L v k ≤ k := by
  unfold rfc
  have h1 := it_inv (rfs E L v) (fun i c => 0 ≤ c ∧ c ≤ i) (fun j c hp => by
    unfold rfs
    split <;> omega) (k - 0).toNat 0 0 (by omega)
  omega
set_option maxHeartbeats 4000000 in
set_option maxRecDepth 100000 in
theorem c_Citations_makeList (l : Launch) (D : va_G) {sh : s_S} {M : s_M} {sz p s w n m : Int} {WC L : Int → Int} (h : civ sh M p s w n m WC L) {ns : Int} {E : Int → sen} (hsh : shv sh M s w ns E) {W : Int → Int} (hW : M w = W) {mn : Int} (hmn : -2147483648 ≤ mn ∧ mn < 2147483648) (hsp : s + 155 ≤ p) : Sp l D y_Citations_makeList prog_2_method_11_code 5 none 5 0 0 [vr p, vi mn] sh M sz (fun v' sh' M' sz' => v' = none ∧ sh' = sh ∧ sz' = sz ∧ civ sh M' p s w n (mkl WC n ns mn (0, L, W, E)).1 WC (mkl WC n ns mn (0, L, W, E)).2.1 ∧ shv sh M' s w ns (mkl WC n ns mn (0, L, W, E)).2.2.2 ∧ M' w = (mkl WC n ns mn (0, L, W, E)).2.2.1 ∧ fr (fun z => z = w ∨ (s ≤ z ∧ z < s + 155) ∨ (p ≤ z ∧ z ≤ p + 2)) M M') := by
  have h12 := h.2.2.2.2.2.2.2.2.2.2.2.1
  have h11 := h.2.2.2.2.2.2.2.2.2.2.1
  have h13 := h.2.2.2.2.2.2.2.2.2.2.2.2.1
  have h14 := h.2.2.2.2.2.2.2.2.2.2.2.2.2.1
  have h16 := h.2.2.2.2.2.2.2.2.2.2.2.2.2.2.2.1
  have hws := hsh.2.2.2.2.2.2.2.2.2.1
  have hns := hsh.2.2.2.2.2.2.1
  refine Sp.ofGo (own := "CiteForge$Citations") (nm := "makeList") (by decide) rfl rfl (Nat.le_of_ble_eq_true rfl) (lv := [(0, vr p), (1, vi mn)]) rfl ?_
  intro g X
  refine go_aload_n X d_Citations_makeList_0 rfl rfl ?_
  refine go_iconst (v := 0) X d_Citations_makeList_1 ?_
  refine go_put (x := 0) (v := vi 0) X f_Citations_39 h.1 rfl d_Citations_makeList_2 rfl rfl rfl ?_
  generalize hM2 : m_s M p 5 0 = M1
  have rw3 : M1 w = W := by rw [← hM2]; exact (m_s_a (by omega)).trans hW
  have pd4 : civ sh M1 p s w n 0 WC L := by rw [← hM2]; exact h.zero
  have pd5 : shv sh M1 s w ns E := by rw [← hM2]; exact hsh.mv (as_set (by omega)) rfl
  have e6 : M1 p 5 = 0 := by rw [← hM2, m_s_s]
  have fr7 : fr (fun z => z = w ∨ (s ≤ z ∧ z < s + 155) ∨ (p ≤ z ∧ z ≤ p + 2)) M M1 := fun z hz => by
    have hz1 : ¬ (z = w ∨ (s ≤ z ∧ z < s + 155) ∨ (p ≤ z ∧ z ≤ p + 2)) := hz
    rw [← hM2]; exact (m_s_a (by omega))
  clear hM2
  refine go_iconst (v := 0) X d_Citations_makeList_5 ?_
  refine go_istore_n (lv' := [(2, vi 0), (0, vr p), (1, vi mn)]) X d_Citations_makeList_6 rfl (by decide) rfl ?_
  have lp1 : ∀ (fuel : Nat) (i : Int) (m1 : Int) (L1 : Int → Int) (W1 : Int → Int) (E1 : Int → sen) (Mx : s_M), (0 ≤ i) → (i ≤ n) → (civ sh Mx p s w n m1 WC L1) → (shv sh Mx s w ns E1) → (Mx w = W1) → (fr (fun z => z = w ∨ (s ≤ z ∧ z < s + 155) ∨ (p ≤ z ∧ z ≤ p + 2)) M Mx) → (it (mla WC ns) (n - i).toNat i (m1, L1, W1, E1) = ml1 WC n ns (0, L, W, E)) → (n - i).toNat < fuel → Go g 0 0 sh Mx sz 7 [(0, vr p), (1, vi mn), (2, vi i)] [] := by
    intro fuel
    induction fuel with
    | zero => intro i m1 L1 W1 E1 Mx hi hi2 hci hsx hWx hfr hp hm_lp1; exact absurd hm_lp1 (Nat.not_lt_zero _)
    | succ fuel ih_lp1 =>
      intro i m1 L1 W1 E1 Mx hi hi2 hci hsx hWx hfr hp hm_lp1
      have hmr := hci.2.2.2.2.2.2.2.2.2.2.2.1
      have hwr := hci.2.2.2.2.2.2.2.2.2.2.2.2.2.2.2.2.2.1
      have hnr := hsx.2.2.2.2.2.2.1
      refine go_iload_n X d_Citations_makeList_7 rfl rfl ?_
      refine go_aload_n X d_Citations_makeList_8 rfl rfl ?_
      refine go_get (v := vi n) X f_Citations_31 h.1 rfl d_Citations_makeList_9 (congrArg (s_v .int) hci.2.2.2.2.2.2.2.2.1) ?_
      refine go_icmp_ge (tgt := 58) X d_Citations_makeList_12 rfl (by omega) (by omega) (fun hq8 => ?_) (fun hq8 => ?_)
      · skip
        refine go_aload_n X d_Citations_makeList_58 rfl rfl ?_
        refine go_get (v := vi m1) X f_Citations_39 h.1 rfl d_Citations_makeList_59 (congrArg (s_v .int) hci.2.2.2.2.2.2.2.2.2.1) ?_
        refine go_istore_n (lv' := [(2, vi m1), (0, vr p), (1, vi mn)]) X d_Citations_makeList_62 rfl (by decide) rfl ?_
        refine go_iconst (v := 0) X d_Citations_makeList_63 ?_
        refine go_istore_n (lv' := [(3, vi 0), (2, vi m1), (0, vr p), (1, vi mn)]) X d_Citations_makeList_64 rfl (by decide) rfl ?_
        have hst1 : ml1 WC n ns (0, L, W, E) = (m1, L1, W1, E1) := it_fin (mla WC ns) hp (by omega)
        have lp2 : ∀ (fuel : Nat) (j : Int) (m2 : Int) (L2 : Int → Int) (W2 : Int → Int) (E2 : Int → sen) (My : s_M), (0 ≤ j) → (j ≤ ns) → (civ sh My p s w n m2 WC L2) → (shv sh My s w ns E2) → (My w = W2) → (fr (fun z => z = w ∨ (s ≤ z ∧ z < s + 155) ∨ (p ≤ z ∧ z ≤ p + 2)) M My) → (m1 ≤ m2) → (it (mlb WC n mn m1) (ns - j).toNat j (m2, L2, W2, E2) = it (mlb WC n mn m1) (ns - 0).toNat 0 (m1, L1, W1, E1)) → (ns - j).toNat < fuel → Go g 0 0 sh My sz 65 [(0, vr p), (1, vi mn), (2, vi m1), (3, vi j)] [] := by
          intro fuel
          induction fuel with
          | zero => intro j m2 L2 W2 E2 My hj hj2 hcj hsy hWy hfy hm12 hp2 hm_lp2; exact absurd hm_lp2 (Nat.not_lt_zero _)
          | succ fuel ih_lp2 =>
            intro j m2 L2 W2 E2 My hj hj2 hcj hsy hWy hfy hm12 hp2 hm_lp2
            have hmr2 := hcj.2.2.2.2.2.2.2.2.2.2.2.1
            have hnr2 := hsy.2.2.2.2.2.2.1
            refine go_iload_n X d_Citations_makeList_65 rfl rfl ?_
            refine go_aload_n X d_Citations_makeList_66 rfl rfl ?_
            refine go_get (v := vr s) X f_Citations_9 h.1 rfl d_Citations_makeList_67 (s_vref hcj.2.2.2.2.1 (by omega)) ?_
            refine go_cVf (st2 := [vi ns, vi j]) (r := [vi j]) X k_Citations_50 (c_Shelf_size l D hsy) hsh.1 rfl rfl (by omega) (Nat.le_of_ble_eq_true rfl) d_Citations_makeList_70 (by omega) (by omega) rfl ?_
            refine go_icmp_ge (tgt := 124) X d_Citations_makeList_73 rfl (by omega) (by omega) (fun hq9 => ?_) (fun hq9 => ?_)
            · skip
              refine go_vret X d_Citations_makeList_124 rfl (by omega) (by omega) ?_
              have hfin := it_fin (mlb WC n mn m1) hp2 (by omega)
              have hall : mkl WC n ns mn (0, L, W, E) = (m2, L2, W2, E2) := by unfold mkl; rw [hst1]; exact hfin
              rw [hall]
              exact ⟨rfl, rfl, rfl, hcj, hsy, hWy, hfy⟩
            · skip
              refine go_aload_n X d_Citations_makeList_76 rfl rfl ?_
              refine go_get (v := vr s) X f_Citations_9 h.1 rfl d_Citations_makeList_77 (s_vref hcj.2.2.2.2.1 (by omega)) ?_
              refine go_iload_n X d_Citations_makeList_80 rfl rfl ?_
              refine go_cVf (st2 := [vr (s + 2 + 17 * j)]) (r := []) X k_Citations_54 (c_Shelf_entryAt l D hsy (i := j) (by omega)) hsh.1 rfl rfl (by omega) (Nat.le_of_ble_eq_true rfl) d_Citations_makeList_81 (by omega) (by omega) rfl ?_
              obtain ⟨er, en⟩ := hsy.ent (i := j) (by omega) (by omega)
              have ek := en.2.2.2.1
              have rlk := en.2.2.2.2.2.2.2.2.2.2.2.2.2.2.1.1
              refine go_astore (lv' := [(4, vr (s + 2 + 17 * j)), (0, vr p), (1, vi mn), (2, vi m1), (3, vi j)]) X d_Citations_makeList_84 (by decide) rfl ?_
              refine go_aload_n X d_Citations_makeList_86 rfl rfl ?_
              refine go_aload X d_Citations_makeList_87 rfl ?_
              refine go_get (v := vl ((E2 j).1.1)) X f_Citations_58 en.1 rfl d_Citations_makeList_89 (congrArg (s_v .long) ek) ?_
              refine go_cVf (st2 := [vi (s_b (decide (0 ≤ fx WC n (E2 j).1.1)))]) (r := []) X k_Citations_62 (c_Citations_isCited l D hcj (v := (E2 j).1.1) rlk) h.1 rfl rfl (by omega) (Nat.le_of_ble_eq_true rfl) d_Citations_makeList_92 (by omega) (by omega) rfl ?_
              refine go_ifb_ne (tgt := 118) X d_Citations_makeList_95 rfl (fun hq10 => ?_) (fun hq10 => ?_)
              · skip
                have hn2 := it_nxt (mlb WC n mn m1) (s' := (m2, L2, W2, E2)) hp2 (by omega) (if_pos (by simpa using hq10))
                have hge := hm12
                refine go_iinc (v := 1) (x := j) (lv' := [(3, vi (j + 1)), (4, vr (s + 2 + 17 * j)), (0, vr p), (1, vi mn), (2, vi m1)]) X d_Citations_makeList_118 rfl (by decide) rfl ?_
                refine go_goto (tgt := 65) X d_Citations_makeList_121 rfl ?_
                refine go_lv (lv' := [(0, vr p), (1, vi mn), (2, vi m1), (3, vi (j + 1))]) X [2, 3, 4, 0] rfl ?_
                exact ih_lp2 (j + 1) m2 L2 W2 E2 My (by omega) (by omega) hcj hsy hWy hfy hge hn2 (by omega)
              · skip
                refine go_aload_n X d_Citations_makeList_98 rfl rfl ?_
                refine go_aload X d_Citations_makeList_99 rfl ?_
                refine go_get (v := vl ((E2 j).1.1)) X f_Citations_58 en.1 rfl d_Citations_makeList_101 (congrArg (s_v .long) ek) ?_
                refine go_iload_n X d_Citations_makeList_104 rfl rfl ?_
                refine go_cVf (st2 := [vi (rfc E2 L2 (E2 j).1.1 m1)]) (r := []) X k_Citations_66 (c_Citations_referring l D hcj hsy (v := (E2 j).1.1) rlk (ce := m1) (by omega)) h.1 rfl rfl (by omega) (Nat.le_of_ble_eq_true rfl) d_Citations_makeList_105 (by omega) (by omega) rfl ?_
                have hrr := rfc_rng (E := E2) (L := L2) (v := (E2 j).1.1) (k := m1) (by omega)
                refine go_iload_n X d_Citations_makeList_108 rfl rfl ?_
                refine go_icmp_lt (tgt := 118) X d_Citations_makeList_109 rfl (by omega) (by omega) (fun hq11 => ?_) (fun hq11 => ?_)
                · skip
                  have hnc : ¬ 0 ≤ fx WC n (kE E2 j) := by simpa using hq10
                  have hn2 := it_nxt (mlb WC n mn m1) (s' := (m2, L2, W2, E2)) hp2 (by omega) ((if_neg hnc).trans (if_pos hq11))
                  have hge := hm12
                  refine go_iinc (v := 1) (x := j) (lv' := [(3, vi (j + 1)), (4, vr (s + 2 + 17 * j)), (0, vr p), (1, vi mn), (2, vi m1)]) X d_Citations_makeList_118 rfl (by decide) rfl ?_
                  refine go_goto (tgt := 65) X d_Citations_makeList_121 rfl ?_
                  refine go_lv (lv' := [(0, vr p), (1, vi mn), (2, vi m1), (3, vi (j + 1))]) X [2, 3, 4, 0] rfl ?_
                  exact ih_lp2 (j + 1) m2 L2 W2 E2 My (by omega) (by omega) hcj hsy hWy hfy hge hn2 (by omega)
                · skip
                  refine go_aload_n X d_Citations_makeList_112 rfl rfl ?_
                  refine go_aload X d_Citations_makeList_113 rfl ?_
                  refine go_cV (st2 := []) (r := []) X k_Citations_46 (c_Citations_addToList l D hcj hsy (q := j) (by omega) rfl (by omega)) h.1 rfl rfl (by omega) (Nat.le_of_ble_eq_true rfl) d_Citations_makeList_115 (by omega) (by omega) (fun v' sh' M12 sz' hpp => ?_)
                  obtain ⟨e13, e14, e15, pd16, pd17, fr18⟩ := hpp
                  subst e13
                  rw [e14, e15]
                  show Go g 0 0 sh M12 sz 118 [(4, vr (s + 2 + 17 * j)), (0, vr p), (1, vi mn), (2, vi m1), (3, vi j)] []
                  have rw19 : M12 w = W2 := (fr18 w (by omega)).trans hWy
                  have fr20 : fr (fun z => z = w ∨ (s ≤ z ∧ z < s + 155) ∨ (p ≤ z ∧ z ≤ p + 2)) M M12 := fun z hz => by
                    have hz1 : ¬ (z = w ∨ (s ≤ z ∧ z < s + 155) ∨ (p ≤ z ∧ z ≤ p + 2)) := hz
                    exact (fr18 z (by omega)).trans (hfy z hz)
                  have hnc : ¬ 0 ≤ fx WC n (kE E2 j) := by simpa using hq10
                  have hn2 := it_nxt (mlb WC n mn m1) (s' := lal j (m2, L2, W2, E2)) hp2 (by omega) ((if_neg hnc).trans (if_neg (by show ¬ rfc E2 L2 (E2 j).1.1 m1 < mn; omega)))
                  have hge : m1 ≤ (lal j (m2, L2, W2, E2)).1 := by show m1 ≤ (if m2 < 8 then m2 + 1 else m2); split <;> omega
                  refine go_iinc (v := 1) (x := j) (lv' := [(3, vi (j + 1)), (4, vr (s + 2 + 17 * j)), (0, vr p), (1, vi mn), (2, vi m1)]) X d_Citations_makeList_118 rfl (by decide) rfl ?_
                  refine go_goto (tgt := 65) X d_Citations_makeList_121 rfl ?_
                  refine go_lv (lv' := [(0, vr p), (1, vi mn), (2, vi m1), (3, vi (j + 1))]) X [2, 3, 4, 0] rfl ?_
                  exact ih_lp2 (j + 1) ((lal j (m2, L2, W2, E2)).1) ((lal j (m2, L2, W2, E2)).2.1) ((lal j (m2, L2, W2, E2)).2.2.1) ((lal j (m2, L2, W2, E2)).2.2.2) M12 (by omega) (by omega) pd16 pd17 rw19 fr20 hge hn2 (by omega)
        refine go_lv (lv' := [(0, vr p), (1, vi mn), (2, vi m1), (3, vi 0)]) X [2, 3, 1, 0] rfl ?_
        exact lp2 _ 0 m1 L1 W1 E1 Mx (by omega) (by omega) hci hsx hWx hfr (by omega) rfl (Nat.lt_succ_self _)
      · skip
        refine go_aload_n X d_Citations_makeList_15 rfl rfl ?_
        refine go_get (v := vr s) X f_Citations_9 h.1 rfl d_Citations_makeList_16 (s_vref hci.2.2.2.2.1 (by omega)) ?_
        refine go_aload_n X d_Citations_makeList_19 rfl rfl ?_
        refine go_get (v := vr (p + 1)) X f_Citations_19 h.1 rfl d_Citations_makeList_20 (s_varr hci.2.2.2.2.2.2.1 (by omega)) ?_
        refine go_iload_n X d_Citations_makeList_23 rfl rfl ?_
        refine go_lald X h.2.1 (by omega) (by omega) d_Citations_makeList_24 ?_
        refine go_top (v' := vl (WC i)) X (by rw [hci.2.2.2.2.2.2.2.2.2.2.2.2.2.2.2.2.1]) ?_
        have hop21 := c_Shelf_find l D (sz := sz) hsx (v := WC i) (hwr i)
        rcases fx_rng (W := kE E1) (n := ns) (w := WC i) (by omega) with hf1 | ⟨hf1, hf2, hf3⟩
        · skip
          rw [show (eq_ s (fx (kE E1) ns (WC i))) = .null from if_neg (by rw [hf1]; decide)] at hop21
          refine go_cVf (st2 := [.null]) (r := []) X k_Citations_42 hop21 hsx.1 rfl rfl (by omega) (Nat.le_of_ble_eq_true rfl) d_Citations_makeList_25 (by omega) (by omega) rfl ?_
          refine go_astore_nN (lv' := [(3, .null), (0, vr p), (1, vi mn), (2, vi i)]) X d_Citations_makeList_28 rfl (by decide) rfl ?_
          refine go_aload_nN X d_Citations_makeList_29 rfl rfl ?_
          refine go_ifnonnullN X d_Citations_makeList_30 ?_
          refine go_aload_n X d_Citations_makeList_33 rfl rfl ?_
          refine go_get (v := vr w) X f_Citations_15 h.1 rfl d_Citations_makeList_34 (s_varr hci.2.2.2.2.2.1 (by omega)) ?_
          refine go_bipush (v := 6) X d_Citations_makeList_37 (by decide) ?_
          refine go_dup2 X d_Citations_makeList_39 rfl rfl ?_
          refine go_iald X h.2.2.2.1 (by omega) (by omega) d_Citations_makeList_40 ?_
          refine go_top (v' := vi (W1 6)) X (by rw [hWx]) ?_
          refine go_iconst (v := 1) X d_Citations_makeList_41 ?_
          refine go_iadd X d_Citations_makeList_42 ?_
          refine go_iast X h.2.2.2.1 (by omega) (by omega) d_Citations_makeList_43 ?_
          generalize hM23 : m_s Mx w 6 ((W1 6) + 1) = M22
          have rw24 : M22 w = inc W1 6 := by rw [← hM23]; exact row_inc hWx
          have pd25 : civ sh M22 p s w n m1 WC L1 := by rw [← hM23]; exact hci.mv (as_set (by omega)) rfl
          have pd26 : shv sh M22 s w ns E1 := by rw [← hM23]; exact hsx.mv (as_set (by omega)) rfl
          have fr27 : fr (fun z => z = w ∨ (s ≤ z ∧ z < s + 155) ∨ (p ≤ z ∧ z ≤ p + 2)) M M22 := fun z hz => by
            have hz1 : ¬ (z = w ∨ (s ≤ z ∧ z < s + 155) ∨ (p ≤ z ∧ z ≤ p + 2)) := hz
            rw [← hM23]; exact (m_s_a (by omega)).trans (hfr z hz)
          clear hM23
          refine go_goto (tgt := 52) X d_Citations_makeList_44 rfl ?_
          have hn := it_nxt (mla WC ns) (s' := (m1, L1, inc W1 6, E1)) hp (by omega) (if_neg (by show ¬ 0 ≤ fx (kE E1) ns (WC i); omega))
          refine go_iinc (v := 1) (x := i) (lv' := [(2, vi (i + 1)), (3, .null), (0, vr p), (1, vi mn)]) X d_Citations_makeList_52 rfl (by decide) rfl ?_
          refine go_goto (tgt := 7) X d_Citations_makeList_55 rfl ?_
          refine go_lv (lv' := [(0, vr p), (1, vi mn), (2, vi (i + 1))]) X [2, 3, 0] rfl ?_
          exact ih_lp1 (i + 1) m1 L1 (inc W1 6) E1 M22 (by omega) (by omega) pd25 pd26 rw24 fr27 hn (by omega)
        · skip
          rw [show (eq_ s (fx (kE E1) ns (WC i))) = vr (s + 2 + 17 * fx (kE E1) ns (WC i)) from if_pos (by omega)] at hop21
          refine go_cVf (st2 := [vr (s + 2 + 17 * fx (kE E1) ns (WC i))]) (r := []) X k_Citations_42 hop21 hsx.1 rfl rfl (by omega) (Nat.le_of_ble_eq_true rfl) d_Citations_makeList_25 (by omega) (by omega) rfl ?_
          refine go_astore_n (lv' := [(3, vr (s + 2 + 17 * fx (kE E1) ns (WC i))), (0, vr p), (1, vi mn), (2, vi i)]) X d_Citations_makeList_28 rfl (by decide) rfl ?_
          refine go_aload_n X d_Citations_makeList_29 rfl rfl ?_
          refine go_ifnonnull (tgt := 47) X d_Citations_makeList_30 rfl ?_
          refine go_aload_n X d_Citations_makeList_47 rfl rfl ?_
          refine go_aload_n X d_Citations_makeList_48 rfl rfl ?_
          refine go_cV (st2 := []) (r := []) X k_Citations_46 (c_Citations_addToList l D hci hsx (q := fx (kE E1) ns (WC i)) (by omega) rfl (by omega)) h.1 rfl rfl (by omega) (Nat.le_of_ble_eq_true rfl) d_Citations_makeList_49 (by omega) (by omega) (fun v' sh' M28 sz' hpp => ?_)
          obtain ⟨e29, e30, e31, pd32, pd33, fr34⟩ := hpp
          subst e29
          rw [e30, e31]
          show Go g 0 0 sh M28 sz 52 [(3, vr (s + 2 + 17 * fx (kE E1) ns (WC i))), (0, vr p), (1, vi mn), (2, vi i)] []
          have rw35 : M28 w = W1 := (fr34 w (by omega)).trans hWx
          have fr36 : fr (fun z => z = w ∨ (s ≤ z ∧ z < s + 155) ∨ (p ≤ z ∧ z ≤ p + 2)) M M28 := fun z hz => by
            have hz1 : ¬ (z = w ∨ (s ≤ z ∧ z < s + 155) ∨ (p ≤ z ∧ z ≤ p + 2)) := hz
            exact (fr34 z (by omega)).trans (hfr z hz)
          have hn := it_nxt (mla WC ns) (s' := lal (fx (kE E1) ns (WC i)) (m1, L1, W1, E1)) hp (by omega) (if_pos hf1)
          refine go_iinc (v := 1) (x := i) (lv' := [(2, vi (i + 1)), (3, vr (s + 2 + 17 * fx (kE E1) ns (WC i))), (0, vr p), (1, vi mn)]) X d_Citations_makeList_52 rfl (by decide) rfl ?_
          refine go_goto (tgt := 7) X d_Citations_makeList_55 rfl ?_
          refine go_lv (lv' := [(0, vr p), (1, vi mn), (2, vi (i + 1))]) X [2, 3, 0] rfl ?_
          exact ih_lp1 (i + 1) ((lal (fx (kE E1) ns (WC i)) (m1, L1, W1, E1)).1) ((lal (fx (kE E1) ns (WC i)) (m1, L1, W1, E1)).2.1) ((lal (fx (kE E1) ns (WC i)) (m1, L1, W1, E1)).2.2.1) ((lal (fx (kE E1) ns (WC i)) (m1, L1, W1, E1)).2.2.2) M28 (by omega) (by omega) pd32 pd33 rw35 fr36 hn (by omega)
  refine go_lv (lv' := [(0, vr p), (1, vi mn), (2, vi 0)]) X [1, 2, 0] rfl ?_
  exact lp1 _ 0 0 L W E M1 (by omega) (by omega) pd4 pd5 rw3 fr7 rfl (Nat.lt_succ_self _)
