theorem gof_rng {t u : List Int} (ht : ∀ i, 0 ≤ tg t i ∧ tg t i < 65536) (hu : ∀ i, 0 ≤ tg u i ∧ tg u i < 65536) (h1 : t.length ≤ 100000) (h2 : u.length ≤ 100000) : -200000 ≤ gof t u ∧ gof t u ≤ 200000 := by
  unfold gof
  exact it_inv (gst t u) (fun _ s => -200000 ≤ s.2 ∧ s.2 ≤ 200000) (fun j s hp => by
    unfold gst
    have := ht j
    have := hu j
    split
    · split
      · exact hp
      · constructor <;> (show _ ≤ _; omega)
    · exact hp) _ 0 _ (by constructor <;> (show _ ≤ _; omega))
theorem civ.put {sh : s_S} {M : s_M} {p s w n m q j : Int} {W L : Int → Int} (h : civ sh M p s w n m W L) (hj : 0 ≤ j ∧ j < m) (hq : 0 ≤ q ∧ q < 8) : civ sh (m_s M (p + 2) j (s + 2 + 17 * q)) p s w n m W (rset L j q) := by
  obtain ⟨q1, q2, q3, q4, q5, q6, q7, q8, q9, q10, q11, q12, q13, q14, q15, q16, q17, q18, q19⟩ := h
  have e0 : m_s M (p + 2) j (s + 2 + 17 * q) p = M p := m_s_a (by omega)
  refine ⟨q1, q2, q3, q4, by rw [e0]; exact q5, by rw [e0]; exact q6, by rw [e0]; exact q7, by rw [e0]; exact q8, by rw [e0]; exact q9, by rw [e0]; exact q10, q11, q12, q13, q14, q15, q16, (m_s_a (by omega)).trans q17, q18, fun i h1 h2 => ?_⟩
  unfold rset
  by_cases hi : i = j
  · subst hi
    rw [if_pos rfl]
    exact ⟨hq, m_s_s⟩
  · rw [if_neg hi]
    exact ⟨(q19 i h1 h2).1, (m_s_n (fun e => hi e.2)).trans (q19 i h1 h2).2⟩
/-- sorting in: entry e goes down from place t -/
def sin (E : Int → sen) (e : Int) : Nat → (Int → Int) → Bool → (Int → Int) × Bool
  | 0, L, b => (rset L 0 e, b)
  | t + 1, L, b => if 0 < gof (E (L t)).2.2.2 (E e).2.2.2 then sin E e t (rset L (t + 1) (L t)) true else (rset L (t + 1) e, b)
def sst (E : Int → sen) (i : Int) (st : (Int → Int) × Bool) : (Int → Int) × Bool := sin E (st.1 i) i.toNat st.1 st.2
def srl (E : Int → sen) (m : Int) (L : Int → Int) : (Int → Int) × Bool := it (sst E) (m - 1).toNat 1 (L, false)
theorem sin_0 {E : Int → sen} {e t : Int} {L : Int → Int} {b : Bool} (h : t = 0) : sin E e t.toNat L b = (rset L t e, b) := by
  subst h
  rfl
theorem sin_no {E : Int → sen} {e t : Int} {L : Int → Int} {b : Bool} (h : 0 < t) (hg : ¬ 0 < gof (E (L (t - 1))).2.2.2 (E e).2.2.2) : sin E e t.toNat L b = (rset L t e, b) := by
  obtain ⟨k, hk⟩ : ∃ k : Nat, t = (k : Int) + 1 := ⟨(t - 1).toNat, by omega⟩
  subst hk
  rw [show ((k : Int) + 1).toNat = k + 1 by omega]
  rw [show (k : Int) + 1 - 1 = k by omega] at hg
  exact if_neg hg
theorem sin_go {E : Int → sen} {e t : Int} {L : Int → Int} {b : Bool} (h : 0 < t) (hg : 0 < gof (E (L (t - 1))).2.2.2 (E e).2.2.2) : sin E e t.toNat L b = sin E e (t - 1).toNat (rset L t (L (t - 1))) true := by
  obtain ⟨k, hk⟩ : ∃ k : Nat, t = (k : Int) + 1 := ⟨(t - 1).toNat, by omega⟩
  subst hk
  rw [show ((k : Int) + 1).toNat = k + 1 by omega, show (k : Int) + 1 - 1 = k by omega, Int.toNat_natCast]
  rw [show (k : Int) + 1 - 1 = k by omega] at hg
  exact if_pos hg
set_option maxHeartbeats 4000000 in
set_option maxRecDepth 100000 in
theorem c_Citations_sortList (l : Launch) (D : va_G) {sh : s_S} {M : s_M} {sz p s w n m : Int} {WC L : Int → Int} (h : civ sh M p s w n m WC L) {ns : Int} {E : Int → sen} (hsh : shv sh M s w ns E) (hsp : s + 155 ≤ p) : Sp l D y_Citations_sortList prog_2_method_14_code 5 (some .boolean) 4 0 0 [vr p] sh M sz (fun v' sh' M' sz' => v' = some (vi (s_b (srl E m L).2)) ∧ sh' = sh ∧ sz' = sz ∧ civ sh M' p s w n m WC (srl E m L).1 ∧ shv sh M' s w ns E ∧ fr (fun z => z = p + 2) M M') := by
  have h12 := h.2.2.2.2.2.2.2.2.2.2.2.1
  have h13 := h.2.2.2.2.2.2.2.2.2.2.2.2.1
  have h15 := h.2.2.2.2.2.2.2.2.2.2.2.2.2.2.1
  have h16 := h.2.2.2.2.2.2.2.2.2.2.2.2.2.2.2.1
  refine Sp.ofGo (own := "CiteForge$Citations") (nm := "sortList") (by decide) rfl rfl (Nat.le_of_ble_eq_true rfl) (lv := [(0, vr p)]) rfl ?_
  intro g X
  refine go_iconst (v := 0) X d_Citations_sortList_0 ?_
  refine go_istore_n (lv' := [(1, vi 0), (0, vr p)]) X d_Citations_sortList_1 rfl (by decide) rfl ?_
  refine go_iconst (v := 1) X d_Citations_sortList_2 ?_
  refine go_istore_n (lv' := [(2, vi 1), (1, vi 0), (0, vr p)]) X d_Citations_sortList_3 rfl (by decide) rfl ?_
  have lo : ∀ (fuel : Nat) (i : Int) (L1 : Int → Int) (b1 : Bool) (Mx : s_M), (1 ≤ i) → (i ≤ m ∨ i = 1) → (civ sh Mx p s w n m WC L1) → (shv sh Mx s w ns E) → (fr (fun z => z = p + 2) M Mx) → (it (sst E) (m - i).toNat i (L1, b1) = srl E m L) → (m - i).toNat < fuel → Go g 0 0 sh Mx sz 4 [(0, vr p), (1, vi (s_b b1)), (2, vi i)] [] := by
    intro fuel
    induction fuel with
    | zero => intro i L1 b1 Mx hi hi2 hci hsx hfr hp hm_lo; exact absurd hm_lo (Nat.not_lt_zero _)
    | succ fuel ih_lo =>
      intro i L1 b1 Mx hi hi2 hci hsx hfr hp hm_lo
      have hl19 := hci.2.2.2.2.2.2.2.2.2.2.2.2.2.2.2.2.2.2
      refine go_iload_n X d_Citations_sortList_4 rfl rfl ?_
      refine go_aload_n X d_Citations_sortList_5 rfl rfl ?_
      refine go_get (v := vi m) X f_Citations_39 h.1 rfl d_Citations_sortList_6 (congrArg (s_v .int) hci.2.2.2.2.2.2.2.2.2.1) ?_
      refine go_icmp_ge (tgt := 87) X d_Citations_sortList_9 rfl (by omega) (by omega) (fun hq1 => ?_) (fun hq1 => ?_)
      · skip
        refine go_iload_n X d_Citations_sortList_87 rfl rfl ?_
        refine go_iret X d_Citations_sortList_88 rfl ?_ (by omega) (by omega) ?_
        · exact s_b_nar _
        have hfin := it_fin (sst E) hp (by omega)
        rw [hfin]
        exact ⟨rfl, rfl, rfl, hci, hsx, hfr⟩
      · skip
        refine go_aload_n X d_Citations_sortList_12 rfl rfl ?_
        refine go_get (v := vr (p + 2)) X f_Citations_27 h.1 rfl d_Citations_sortList_13 (s_varr hci.2.2.2.2.2.2.2.1 (by omega)) ?_
        refine go_iload_n X d_Citations_sortList_16 rfl rfl ?_
        obtain ⟨hL1, hL2⟩ := hl19 i (by omega) (by omega)
        obtain ⟨er, en⟩ := hsx.ent (i := L1 i) (by omega) (by omega)
        refine go_aald X h.2.2.1 (by omega) (by omega) d_Citations_sortList_17 ?_
        refine go_top (v' := vr (s + 2 + 17 * L1 i)) X (s_qref hL2 (by omega)) ?_
        refine go_astore_n (lv' := [(3, vr (s + 2 + 17 * L1 i)), (0, vr p), (1, vi (s_b b1)), (2, vi i)]) X d_Citations_sortList_18 rfl (by decide) rfl ?_
        refine go_iload_n X d_Citations_sortList_19 rfl rfl ?_
        refine go_istore (lv' := [(4, vi i), (3, vr (s + 2 + 17 * L1 i)), (0, vr p), (1, vi (s_b b1)), (2, vi i)]) X d_Citations_sortList_20 (by decide) rfl ?_
        have li : ∀ (fuel : Nat) (t : Int) (L2 : Int → Int) (b2 : Bool) (My : s_M), (0 ≤ t) → (t ≤ i) → (civ sh My p s w n m WC L2) → (shv sh My s w ns E) → (fr (fun z => z = p + 2) M My) → (sin E (L1 i) t.toNat L2 b2 = sst E i (L1, b1)) → t.toNat < fuel → Go g 0 0 sh My sz 22 [(0, vr p), (1, vi (s_b b2)), (2, vi i), (3, vr (s + 2 + 17 * L1 i)), (4, vi t)] [] := by
          intro fuel
          induction fuel with
          | zero => intro t L2 b2 My ht ht2 hcj hsy hfy hp2 hm_li; exact absurd hm_li (Nat.not_lt_zero _)
          | succ fuel ih_li =>
            intro t L2 b2 My ht ht2 hcj hsy hfy hp2 hm_li
            have hm19 := hcj.2.2.2.2.2.2.2.2.2.2.2.2.2.2.2.2.2.2
            refine go_iload X d_Citations_sortList_22 rfl ?_
            refine go_if_le (tgt := 73) X d_Citations_sortList_24 rfl (by omega) (fun hq2 => ?_) (fun hq2 => ?_)
            · skip
              refine go_aload_n X d_Citations_sortList_73 rfl rfl ?_
              refine go_get (v := vr (p + 2)) X f_Citations_27 h.1 rfl d_Citations_sortList_74 (s_varr hcj.2.2.2.2.2.2.2.1 (by omega)) ?_
              refine go_iload X d_Citations_sortList_77 rfl ?_
              refine go_aload_n X d_Citations_sortList_79 rfl rfl ?_
              refine go_aast X h.2.2.1 (by omega) (by omega) (cls1) en.1 d_Citations_sortList_80 ?_
              have pe3 : civ sh (m_s My (p + 2) t (s + 2 + 17 * L1 i)) p s w n m WC (rset L2 t (L1 i)) := hcj.put (by omega) (by omega)
              revert pe3
              generalize hM5 : m_s My (p + 2) t (s + 2 + 17 * L1 i) = M4
              intro pe3
              have pd6 : shv sh M4 s w ns E := by rw [← hM5]; exact hsy.mv (as_set (by omega)) rfl
              have e7 : M4 (p + 2) t = s + 2 + 17 * L1 i := by rw [← hM5, m_s_s]
              have fr8 : fr (fun z => z = p + 2) M M4 := fun z hz => by
                have hz1 : ¬ (z = p + 2) := hz
                rw [← hM5]; exact (m_s_a (by omega)).trans (hfy z hz)
              clear hM5
              have hs9 : (rset L2 t (L1 i), b2) = sst E i (L1, b1) := (sin_0 (by omega)).symm.trans hp2
              have hn := it_nxt (sst E) (s' := (rset L2 t (L1 i), b2)) hp (by omega) hs9.symm
              refine go_iinc (v := 1) (x := i) (lv' := [(2, vi (i + 1)), (0, vr p), (1, vi (s_b b2)), (3, vr (s + 2 + 17 * L1 i)), (4, vi t)]) X d_Citations_sortList_81 rfl (by decide) rfl ?_
              refine go_goto (tgt := 4) X d_Citations_sortList_84 rfl ?_
              refine go_lv (lv' := [(0, vr p), (1, vi (s_b b2)), (2, vi (i + 1))]) X [1, 2, 0] rfl ?_
              exact ih_lo (i + 1) (rset L2 t (L1 i)) b2 M4 (by omega) (by omega) pe3 pd6 fr8 hn (by omega)
            · skip
              refine go_aload_n X d_Citations_sortList_27 rfl rfl ?_
              refine go_get (v := vr (p + 2)) X f_Citations_27 h.1 rfl d_Citations_sortList_28 (s_varr hcj.2.2.2.2.2.2.2.1 (by omega)) ?_
              refine go_iload X d_Citations_sortList_31 rfl ?_
              refine go_iconst (v := 1) X d_Citations_sortList_33 ?_
              refine go_isub X d_Citations_sortList_34 ?_
              obtain ⟨hK1, hK2⟩ := hm19 (t - 1) (by omega) (by omega)
              obtain ⟨er3, en3⟩ := hsy.ent (i := L2 (t - 1)) (by omega) (by omega)
              obtain ⟨er4, en4⟩ := hsy.ent (i := L1 i) (by omega) (by omega)
              have ek9 := en3.2.2.2.2.2.2.2.2.2.1
              have et10 := en3.2.2.2.2.2.2.2.2.2.2.2.2.2.2.2.2
              have let10 := et10.len
              have ek11 := en4.2.2.2.2.2.2.2.2.2.1
              have et12 := en4.2.2.2.2.2.2.2.2.2.2.2.2.2.2.2.2
              have let12 := et12.len
              have hgr := gof_rng et10.rng et12.rng (by omega) (by omega)
              refine go_aald X h.2.2.1 (by omega) (by omega) d_Citations_sortList_35 ?_
              refine go_top (v' := vr (s + 2 + 17 * L2 (t - 1))) X (s_qref hK2 (by omega)) ?_
              refine go_get (v := vr (s + 2 + 17 * L2 (t - 1) + 15)) X f_Citations_70 en3.1 rfl d_Citations_sortList_36 (s_vref ek9 (by omega)) ?_
              refine go_aload_n X d_Citations_sortList_39 rfl rfl ?_
              refine go_get (v := vr (s + 2 + 17 * L1 i + 15)) X f_Citations_70 en.1 rfl d_Citations_sortList_40 (s_vref ek11 (by omega)) ?_
              refine go_cVf (st2 := [vi (gof ((E (L2 (t - 1))).2.2.2) ((E (L1 i)).2.2.2))]) (r := []) X k_Citations_82 (c_Text_against l D et10 et12) et10.1.1 rfl rfl (by omega) (Nat.le_of_ble_eq_true rfl) d_Citations_sortList_43 (by omega) (by omega) rfl ?_
              refine go_if_le (tgt := 73) X d_Citations_sortList_46 rfl (by omega) (fun hq13 => ?_) (fun hq13 => ?_)
              · skip
                refine go_aload_n X d_Citations_sortList_73 rfl rfl ?_
                refine go_get (v := vr (p + 2)) X f_Citations_27 h.1 rfl d_Citations_sortList_74 (s_varr hcj.2.2.2.2.2.2.2.1 (by omega)) ?_
                refine go_iload X d_Citations_sortList_77 rfl ?_
                refine go_aload_n X d_Citations_sortList_79 rfl rfl ?_
                refine go_aast X h.2.2.1 (by omega) (by omega) (cls1) en.1 d_Citations_sortList_80 ?_
                have pe14 : civ sh (m_s My (p + 2) t (s + 2 + 17 * L1 i)) p s w n m WC (rset L2 t (L1 i)) := hcj.put (by omega) (by omega)
                revert pe14
                generalize hM16 : m_s My (p + 2) t (s + 2 + 17 * L1 i) = M15
                intro pe14
                have e17 : M15 (p + 2) (t - 1) = s + 2 + 17 * L2 (t - 1) := by rw [← hM16]; exact (m_s_n (by omega)).trans hK2
                have e18 : M15 (s + 2 + 17 * L2 (t - 1)) 6 = s + 2 + 17 * L2 (t - 1) + 15 := by rw [← hM16]; exact (m_s_n (by omega)).trans ek9
                have e19 : M15 (s + 2 + 17 * L1 i) 6 = s + 2 + 17 * L1 i + 15 := by rw [← hM16]; exact (m_s_n (by omega)).trans ek11
                have pd20 : shv sh M15 s w ns E := by rw [← hM16]; exact hsy.mv (as_set (by omega)) rfl
                have e21 : M15 (p + 2) t = s + 2 + 17 * L1 i := by rw [← hM16, m_s_s]
                have fr22 : fr (fun z => z = p + 2) M M15 := fun z hz => by
                  have hz1 : ¬ (z = p + 2) := hz
                  rw [← hM16]; exact (m_s_a (by omega)).trans (hfy z hz)
                clear hM16
                have hs9 : (rset L2 t (L1 i), b2) = sst E i (L1, b1) := (sin_no (by omega) (by omega)).symm.trans hp2
                have hn := it_nxt (sst E) (s' := (rset L2 t (L1 i), b2)) hp (by omega) hs9.symm
                refine go_iinc (v := 1) (x := i) (lv' := [(2, vi (i + 1)), (0, vr p), (1, vi (s_b b2)), (3, vr (s + 2 + 17 * L1 i)), (4, vi t)]) X d_Citations_sortList_81 rfl (by decide) rfl ?_
                refine go_goto (tgt := 4) X d_Citations_sortList_84 rfl ?_
                refine go_lv (lv' := [(0, vr p), (1, vi (s_b b2)), (2, vi (i + 1))]) X [1, 2, 0] rfl ?_
                exact ih_lo (i + 1) (rset L2 t (L1 i)) b2 M15 (by omega) (by omega) pe14 pd20 fr22 hn (by omega)
              · skip
                refine go_aload_n X d_Citations_sortList_49 rfl rfl ?_
                refine go_get (v := vr (p + 2)) X f_Citations_27 h.1 rfl d_Citations_sortList_50 (s_varr hcj.2.2.2.2.2.2.2.1 (by omega)) ?_
                refine go_iload X d_Citations_sortList_53 rfl ?_
                refine go_aload_n X d_Citations_sortList_55 rfl rfl ?_
                refine go_get (v := vr (p + 2)) X f_Citations_27 h.1 rfl d_Citations_sortList_56 (s_varr hcj.2.2.2.2.2.2.2.1 (by omega)) ?_
                refine go_iload X d_Citations_sortList_59 rfl ?_
                refine go_iconst (v := 1) X d_Citations_sortList_61 ?_
                refine go_isub X d_Citations_sortList_62 ?_
                refine go_aald X h.2.2.1 (by omega) (by omega) d_Citations_sortList_63 ?_
                refine go_top (v' := vr (s + 2 + 17 * L2 (t - 1))) X (s_qref hK2 (by omega)) ?_
                refine go_aast X h.2.2.1 (by omega) (by omega) (cls1) en3.1 d_Citations_sortList_64 ?_
                have pe23 : civ sh (m_s My (p + 2) t (s + 2 + 17 * L2 (t - 1))) p s w n m WC (rset L2 t (L2 (t - 1))) := hcj.put (by omega) (by omega)
                revert pe23
                generalize hM25 : m_s My (p + 2) t (s + 2 + 17 * L2 (t - 1)) = M24
                intro pe23
                have e26 : M24 (p + 2) (t - 1) = s + 2 + 17 * L2 (t - 1) := by rw [← hM25]; exact (m_s_n (by omega)).trans hK2
                have pd27 : shv sh M24 s w ns E := by rw [← hM25]; exact hsy.mv (as_set (by omega)) rfl
                have e28 : M24 (p + 2) t = s + 2 + 17 * L2 (t - 1) := by rw [← hM25, m_s_s]
                have fr29 : fr (fun z => z = p + 2) M M24 := fun z hz => by
                  have hz1 : ¬ (z = p + 2) := hz
                  rw [← hM25]; exact (m_s_a (by omega)).trans (hfy z hz)
                clear hM25
                have hn2 : sin E (L1 i) (t - 1).toNat (rset L2 t (L2 (t - 1))) true = sst E i (L1, b1) := (sin_go (by omega) hq13).symm.trans hp2
                refine go_iinc (v := (-1)) (x := t) (lv' := [(4, vi (t + (-1))), (0, vr p), (1, vi (s_b b2)), (2, vi i), (3, vr (s + 2 + 17 * L1 i))]) X d_Citations_sortList_65 rfl (by decide) rfl ?_
                refine go_iconst (v := 1) X d_Citations_sortList_68 ?_
                refine go_istore_n (lv' := [(1, vi 1), (4, vi (t + (-1))), (0, vr p), (2, vi i), (3, vr (s + 2 + 17 * L1 i))]) X d_Citations_sortList_69 rfl (by decide) rfl ?_
                refine go_goto (tgt := 22) X d_Citations_sortList_70 rfl ?_
                refine go_lv (lv' := [(0, vr p), (1, vi 1), (2, vi i), (3, vr (s + 2 + 17 * L1 i)), (4, vi (t + (-1)))]) X [2, 0, 3, 4, 1] rfl ?_
                exact ih_li (t + (-1)) (rset L2 t (L2 (t - 1))) true M24 (by omega) (by omega) pe23 pd27 fr29 hn2 (by omega)
        refine go_lv (lv' := [(0, vr p), (1, vi (s_b b1)), (2, vi i), (3, vr (s + 2 + 17 * L1 i)), (4, vi i)]) X [2, 3, 4, 1, 0] rfl ?_
        exact li _ i L1 b1 Mx (by omega) (by omega) hci hsx hfr rfl (Nat.lt_succ_self _)
  refine go_lv (lv' := [(0, vr p), (1, vi 0), (2, vi 1)]) X [2, 1, 0] rfl ?_
  exact lo _ 1 L false M (by omega) (by omega) h hsh (fun z _ => rfl) rfl (Nat.lt_succ_self _)
