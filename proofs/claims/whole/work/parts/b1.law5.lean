set_option maxHeartbeats 4000000 in
set_option maxRecDepth 100000 in
theorem hg_write (l : Launch) (hl : l.stackTraces = false) (D : va_G) {sh : s_S} {M : s_M} {sz o : Int} {s : rnT} {hd : Int} {ns : Int} {O : Int → Int} {Q : Int → Int} {Z : Int → Int} {nr : Int} {t : List Int} {WR : Int → Int} {YR : Int → List Int} {vR : List Int} {nc : Int} {m : Int} {WC : Int → Int} {L : Int → Int} (h : cwd sh M sz o s hd ns O Q Z nr t WR YR vR nc m WC L) {x n_ : Int} (hx : 0 ≤ x ∧ x < 18446744073709551616) (hn : -2147483648 ≤ n_ ∧ n_ < 2147483648) {q_ : Int} (hqo : sh q_ = some (.inr (.long, 1))) (hq0 : o + 246 < q_) (hqz : q_ < sz) : SpW l D y_Law_write method_3_code 6 (some .int) [(0, 11, 14, 13), (0, 11, 18, 15)] 12 1 6 [vr o, vl x, vi n_, vr q_] sh M sz (fun v' sh' M' sz' => ∃ kd vv hd' : Int, kd = wrk t x n_ ∧ vv = (t.length : Int) + n_ ∧ (0 ≤ kd ∧ kd ≤ 2) ∧ v' = some (vi kd) ∧ (∀ z, z < sz → sh' z = sh z) ∧ sz ≤ sz' ∧ (kd = 0 → M' q_ 0 = wi32 vv) ∧ cwd sh' M' sz' o s hd' ns O Q Z nr (if wrk t x n_ = 0 then (ads x n_ t) else t) WR YR vR nc m WC L ∧ fr (fun z => (o ≤ z ∧ z ≤ o + 246) ∨ z = q_ ∨ sz ≤ z) M M') := by
  have q0 := h.1.1
  have q9 : 0 ≤ o := h.sz.1
  refine SpW.ofGo (own := "CiteForgeLaw") (nm := "write") (by decide) rfl rfl (Nat.le_of_ble_eq_true rfl) (lv := [(0, vr o), (1, vl x), (3, vi n_), (4, vr q_)]) rfl ?_
  intro g X YY
  refine go_aload X d_Law_write_0 rfl ?_
  refine go_iconst (v := 0) X d_Law_write_2 ?_
  refine go_aload_n X d_Law_write_3 rfl rfl ?_
  refine go_lload_n X d_Law_write_4 rfl rfl ?_
  refine go_iload_n X d_Law_write_5 rfl rfl ?_
  refine go_callVx (r := [vi 0, vr q_]) X YY k_Law_7.1.1 k_Law_7.1.2.1 k_Law_7.1.2.2.1 w611 k_Law_7.2.1 k_Law_7.2.2.1 (g_write l hl D h hx hn) q0 cls10 rfl rfl (by omega) (by decide) (by omega) (by omega) (Nat.le_of_ble_eq_true rfl) d_Law_write_6 (fun v' sh' M1 sz' hp => ?_) (fun E sh' M1 sz' hx => ?_)
  · skip
    obtain ⟨hcd, e1, e2, e3, p0, f1⟩ := hp
    subst e1
    rw [e2, e3]
    show Go g 1 6 sh M1 sz 9 [(0, vr o), (1, vl x), (3, vi n_), (4, vr q_)] [vi ((t.length : Int) + n_), vi 0, vr q_]
    refine go_top (v' := vi (wi32 ((t.length : Int) + n_))) X (wi32_vi _) ?_
    have hv0 := wi32_rng ((t.length : Int) + n_)
    refine go_i2l X d_Law_write_9 (by omega) ?_
    refine go_last X hqo (by omega) (by omega) d_Law_write_10 ?_
    generalize hM2 : m_s M1 q_ 0 (wi32 ((t.length : Int) + n_)) = M1
    have e3 : M1 q_ 0 = wi32 ((t.length : Int) + n_) := by rw [← hM2, m_s_s]
    refine go_goto (tgt := 22) X d_Law_write_11 rfl ?_
    refine go_iconst (v := 0) X d_Law_write_22 ?_
    refine go_iret X d_Law_write_23 rfl ?_ (by omega) (by omega) ?_
    · rfl
    refine ⟨0, _, hd, hcd.symm, rfl, by decide, rfl, fun _ _ => rfl, Int.le_refl _, fun _ => e3, ?_, fun z hz => ?_⟩
    · rw [if_pos hcd]
      exact p0.off (fun z a b => by rw [← hM2]; exact m_s_a (by omega)) (fun z a b c => by
        rw [← hM2]
        exact m_s_a (fun e => lng_no hqo (e ▸ c)))
    · have hz1 : ¬ ((o ≤ z ∧ z ≤ o + 246) ∨ z = q_ ∨ sz ≤ z) := hz
      rw [← hM2, m_s_a (by omega)]
      exact f1 z (by show ¬ (o ≤ z ∧ z ≤ o + 246); omega)
  · skip
    obtain ⟨e1, e2, e3, hor⟩ := hx
    rw [e1, e2, e3]
    rcases hor with ⟨rfl, hcd⟩ | ⟨rfl, hcd⟩
    · skip
      refine ⟨14, x_f_hit ⟨by decide, by decide, by decide⟩ w_cl_Law_13 x_c_IA, fun a_ => ?_⟩
      have hn0 : ¬ wrk t x n_ = 0 := by rw [hcd]; decide
      show Go g 1 6 sh M (sz + 1) 14 [(0, vr o), (1, vl x), (3, vi n_), (4, vr q_)] [vr a_]
      refine go_astore (lv' := [(5, vr a_), (0, vr o), (1, vl x), (3, vi n_), (4, vr q_)]) X d_Law_write_14 (by decide) rfl ?_
      refine go_iconst (v := 1) X d_Law_write_16 ?_
      refine go_iret X d_Law_write_17 rfl ?_ (by omega) (by omega) ?_
      · rfl
      refine ⟨1, _, hd, hcd.symm, rfl, by decide, rfl, fun _ _ => rfl, by omega, fun q => absurd q (by decide), ?_, fun z _ => rfl⟩
      rw [if_neg hn0]
      exact h.mv (by omega) (fun z a b => ⟨rfl, rfl⟩)
    · skip
      refine ⟨18, x_f_skip ⟨by decide, by decide, by decide⟩ w_cl_Law_13 (by simp [ncAll]) (x_f_hit ⟨by decide, by decide, by decide⟩ w_cl_Law_15 x_c_IS), fun a_ => ?_⟩
      have hn0 : ¬ wrk t x n_ = 0 := by rw [hcd]; decide
      show Go g 1 6 sh M (sz + 1) 18 [(0, vr o), (1, vl x), (3, vi n_), (4, vr q_)] [vr a_]
      refine go_astore (lv' := [(5, vr a_), (0, vr o), (1, vl x), (3, vi n_), (4, vr q_)]) X d_Law_write_18 (by decide) rfl ?_
      refine go_iconst (v := 2) X d_Law_write_20 ?_
      refine go_iret X d_Law_write_21 rfl ?_ (by omega) (by omega) ?_
      · rfl
      refine ⟨2, _, hd, hcd.symm, rfl, by decide, rfl, fun _ _ => rfl, by omega, fun q => absurd q (by decide), ?_, fun z _ => rfl⟩
      rw [if_neg hn0]
      exact h.mv (by omega) (fun z a b => ⟨rfl, rfl⟩)
set_option maxHeartbeats 4000000 in
set_option maxRecDepth 100000 in
theorem hg_cite (l : Launch) (hl : l.stackTraces = false) (D : va_G) {sh : s_S} {M : s_M} {sz o : Int} {s : rnT} {hd : Int} {ns : Int} {O : Int → Int} {Q : Int → Int} {Z : Int → Int} {nr : Int} {t : List Int} {WR : Int → Int} {YR : Int → List Int} {vR : List Int} {nc : Int} {m : Int} {WC : Int → Int} {L : Int → Int} (h : cwd sh M sz o s hd ns O Q Z nr t WR YR vR nc m WC L) {x : Int} (hx : 0 ≤ x ∧ x < 18446744073709551616) {q_ : Int} (hqo : sh q_ = some (.inr (.long, 1))) (hq0 : o + 246 < q_) (hqz : q_ < sz) : SpW l D y_Law_cite method_4_code 5 (some .int) [(0, 16, 19, 13), (0, 16, 23, 15)] 12 1 6 [vr o, vl x, vr q_] sh M sz (fun v' sh' M' sz' => ∃ kd vv hd' : Int, kd = cik WC nc x ∧ vv = civl WC nc x ∧ (0 ≤ kd ∧ kd ≤ 2) ∧ v' = some (vi kd) ∧ (∀ z, z < sz → sh' z = sh z) ∧ sz ≤ sz' ∧ (kd = 0 → M' q_ 0 = vv) ∧ cwd sh' M' sz' o s hd' ns O Q Z nr t WR YR vR (if cik WC nc x = 0 then (cin WC nc x) else nc) m (if cik WC nc x = 0 then (ciw WC nc x) else WC) L ∧ fr (fun z => (o ≤ z ∧ z ≤ o + 246) ∨ z = q_ ∨ sz ≤ z) M M') := by
  have q0 := h.1.1
  have q9 : 0 ≤ o := h.sz.1
  refine SpW.ofGo (own := "CiteForgeLaw") (nm := "cite") (by decide) rfl rfl (Nat.le_of_ble_eq_true rfl) (lv := [(0, vr o), (1, vl x), (3, vr q_)]) rfl ?_
  intro g X YY
  refine go_aload_n X d_Law_cite_0 rfl rfl ?_
  refine go_iconst (v := 0) X d_Law_cite_1 ?_
  refine go_aload_n X d_Law_cite_2 rfl rfl ?_
  refine go_lload_n X d_Law_cite_3 rfl rfl ?_
  refine go_callVx (r := [vi 0, vr q_]) X YY k_Law_17.1.1 k_Law_17.1.2.1 k_Law_17.1.2.2.1 w716 k_Law_17.2.1 k_Law_17.2.2.1 (g_cite l hl D h hx) q0 cls10 rfl rfl (by omega) (by decide) (by omega) (by omega) (Nat.le_of_ble_eq_true rfl) d_Law_cite_4 (fun v' sh' M1 sz' hp => ?_) (fun E sh' M1 sz' hx => ?_)
  · skip
    obtain ⟨hcd, e1, e2, e3, p0, f1⟩ := hp
    subst e1
    rw [e2, e3]
    show Go g 1 6 sh M1 sz 7 [(0, vr o), (1, vl x), (3, vr q_)] [vi (civl WC nc x), vi 0, vr q_]
    have hv0 := civl_rng WC nc x
    refine go_if_eq (tgt := 14) X d_Law_cite_7 rfl (by omega) (fun hq1 => ?_) (fun hq1 => ?_)
    · skip
      refine go_lconst (x := 0) X d_Law_cite_14 (by decide) ?_
      refine go_last X hqo (by omega) (by omega) d_Law_cite_15 ?_
      generalize hM3 : m_s M1 q_ 0 0 = M2
      have e4 : M2 q_ 0 = 0 := by rw [← hM3, m_s_s]
      refine go_goto (tgt := 27) X d_Law_cite_16 rfl ?_
      refine go_iconst (v := 0) X d_Law_cite_27 ?_
      refine go_iret X d_Law_cite_28 rfl ?_ (by omega) (by omega) ?_
      · rfl
      refine ⟨0, _, hd, hcd.symm, rfl, by decide, rfl, fun _ _ => rfl, Int.le_refl _, fun _ => e4.trans (by omega), ?_, fun z hz => ?_⟩
      · rw [if_pos hcd, if_pos hcd]
        exact p0.off (fun z a b => by rw [← hM3]; exact m_s_a (by omega)) (fun z a b c => by
          rw [← hM3]
          exact m_s_a (fun e => lng_no hqo (e ▸ c)))
      · have hz1 : ¬ ((o ≤ z ∧ z ≤ o + 246) ∨ z = q_ ∨ sz ≤ z) := hz
        rw [← hM3, m_s_a (by omega)]
        exact f1 z (by show ¬ (o ≤ z ∧ z ≤ o + 246); omega)
    · skip
      refine go_lconst (x := 1) X d_Law_cite_10 (by decide) ?_
      refine go_goto (tgt := 15) X d_Law_cite_11 rfl ?_
      refine go_last X hqo (by omega) (by omega) d_Law_cite_15 ?_
      generalize hM6 : m_s M1 q_ 0 1 = M5
      have e7 : M5 q_ 0 = 1 := by rw [← hM6, m_s_s]
      refine go_goto (tgt := 27) X d_Law_cite_16 rfl ?_
      refine go_iconst (v := 0) X d_Law_cite_27 ?_
      refine go_iret X d_Law_cite_28 rfl ?_ (by omega) (by omega) ?_
      · rfl
      refine ⟨0, _, hd, hcd.symm, rfl, by decide, rfl, fun _ _ => rfl, Int.le_refl _, fun _ => e7.trans (by omega), ?_, fun z hz => ?_⟩
      · rw [if_pos hcd, if_pos hcd]
        exact p0.off (fun z a b => by rw [← hM6]; exact m_s_a (by omega)) (fun z a b c => by
          rw [← hM6]
          exact m_s_a (fun e => lng_no hqo (e ▸ c)))
      · have hz1 : ¬ ((o ≤ z ∧ z ≤ o + 246) ∨ z = q_ ∨ sz ≤ z) := hz
        rw [← hM6, m_s_a (by omega)]
        exact f1 z (by show ¬ (o ≤ z ∧ z ≤ o + 246); omega)
  · skip
    obtain ⟨e1, e2, e3, hor⟩ := hx
    rw [e1, e2, e3]
    rcases hor with ⟨rfl, hcd⟩ | ⟨rfl, hcd⟩
    · skip
      refine ⟨19, x_f_hit ⟨by decide, by decide, by decide⟩ w_cl_Law_13 x_c_IA, fun a_ => ?_⟩
      have hn0 : ¬ cik WC nc x = 0 := by rw [hcd]; decide
      show Go g 1 6 sh M (sz + 1) 19 [(0, vr o), (1, vl x), (3, vr q_)] [vr a_]
      refine go_astore (lv' := [(4, vr a_), (0, vr o), (1, vl x), (3, vr q_)]) X d_Law_cite_19 (by decide) rfl ?_
      refine go_iconst (v := 1) X d_Law_cite_21 ?_
      refine go_iret X d_Law_cite_22 rfl ?_ (by omega) (by omega) ?_
      · rfl
      refine ⟨1, _, hd, hcd.symm, rfl, by decide, rfl, fun _ _ => rfl, by omega, fun q => absurd q (by decide), ?_, fun z _ => rfl⟩
      rw [if_neg hn0, if_neg hn0]
      exact h.mv (by omega) (fun z a b => ⟨rfl, rfl⟩)
    · skip
      refine ⟨23, x_f_skip ⟨by decide, by decide, by decide⟩ w_cl_Law_13 (by simp [ncAll]) (x_f_hit ⟨by decide, by decide, by decide⟩ w_cl_Law_15 x_c_IS), fun a_ => ?_⟩
      have hn0 : ¬ cik WC nc x = 0 := by rw [hcd]; decide
      show Go g 1 6 sh M (sz + 1) 23 [(0, vr o), (1, vl x), (3, vr q_)] [vr a_]
      refine go_astore (lv' := [(4, vr a_), (0, vr o), (1, vl x), (3, vr q_)]) X d_Law_cite_23 (by decide) rfl ?_
      refine go_iconst (v := 2) X d_Law_cite_25 ?_
      refine go_iret X d_Law_cite_26 rfl ?_ (by omega) (by omega) ?_
      · rfl
      refine ⟨2, _, hd, hcd.symm, rfl, by decide, rfl, fun _ _ => rfl, by omega, fun q => absurd q (by decide), ?_, fun z _ => rfl⟩
      rw [if_neg hn0, if_neg hn0]
      exact h.mv (by omega) (fun z a b => ⟨rfl, rfl⟩)
set_option maxHeartbeats 4000000 in
set_option maxRecDepth 100000 in
theorem hg_list (l : Launch) (hl : l.stackTraces = false) (D : va_G) {sh : s_S} {M : s_M} {sz o : Int} {s : rnT} {hd : Int} {ns : Int} {O : Int → Int} {Q : Int → Int} {Z : Int → Int} {nr : Int} {t : List Int} {WR : Int → Int} {YR : Int → List Int} {vR : List Int} {nc : Int} {m : Int} {WC : Int → Int} {L : Int → Int} (h : cwd sh M sz o s hd ns O Q Z nr t WR YR vR nc m WC L) {i : Int} (hi : -2147483648 ≤ i ∧ i < 2147483648) {q_ : Int} (hqo : sh q_ = some (.inr (.long, 1))) (hq0 : o + 246 < q_) (hqz : q_ < sz) : SpW l D y_Law_list method_5_code 4 (some .int) [(0, 9, 12, 13)] 12 1 6 [vr o, vi i, vr q_] sh M sz (fun v' sh' M' sz' => ∃ kd vv hd' : Int, kd = lsk i ∧ vv = (mkl WC nc ns i (0, L, s.1.1, s.2.1.2)).1 ∧ (0 ≤ kd ∧ kd ≤ 2) ∧ v' = some (vi kd) ∧ (∀ z, z < sz → sh' z = sh z) ∧ sz ≤ sz' ∧ (kd = 0 → M' q_ 0 = wi32 vv) ∧ cwd sh' M' sz' o (if lsk i = 0 then (((mkl WC nc ns i (0, L, s.1.1, s.2.1.2)).2.2.1, s.1.2), (s.2.1.1, (mkl WC nc ns i (0, L, s.1.1, s.2.1.2)).2.2.2), s.2.2) else s) hd' ns O Q Z nr t WR YR vR nc (if lsk i = 0 then ((mkl WC nc ns i (0, L, s.1.1, s.2.1.2)).1) else m) WC (if lsk i = 0 then ((mkl WC nc ns i (0, L, s.1.1, s.2.1.2)).2.1) else L) ∧ fr (fun z => (o ≤ z ∧ z ≤ o + 246) ∨ z = q_ ∨ sz ≤ z) M M') := by
  have q0 := h.1.1
  have q9 : 0 ≤ o := h.sz.1
  refine SpW.ofGo (own := "CiteForgeLaw") (nm := "list") (by decide) rfl rfl (Nat.le_of_ble_eq_true rfl) (lv := [(0, vr o), (1, vi i), (2, vr q_)]) rfl ?_
  intro g X YY
  refine go_aload_n X d_Law_list_0 rfl rfl ?_
  refine go_iconst (v := 0) X d_Law_list_1 ?_
  refine go_aload_n X d_Law_list_2 rfl rfl ?_
  refine go_iload_n X d_Law_list_3 rfl rfl ?_
  refine go_callVx (r := [vi 0, vr q_]) X YY k_Law_21.1.1 k_Law_21.1.2.1 k_Law_21.1.2.2.1 w743 k_Law_21.2.1 k_Law_21.2.2.1 (g_list l hl D h hi) q0 cls10 rfl rfl (by omega) (by decide) (by omega) (by omega) (Nat.le_of_ble_eq_true rfl) d_Law_list_4 (fun v' sh' M1 sz' hp => ?_) (fun E sh' M1 sz' hx => ?_)
  · skip
    obtain ⟨hcd, e1, e2, e3, p0, f1⟩ := hp
    subst e1
    rw [e2, e3]
    show Go g 1 6 sh M1 sz 7 [(0, vr o), (1, vi i), (2, vr q_)] [vi ((mkl WC nc ns i (0, L, s.1.1, s.2.1.2)).1), vi 0, vr q_]
    refine go_top (v' := vi (wi32 ((mkl WC nc ns i (0, L, s.1.1, s.2.1.2)).1))) X (wi32_vi _) ?_
    have hv0 := wi32_rng ((mkl WC nc ns i (0, L, s.1.1, s.2.1.2)).1)
    refine go_i2l X d_Law_list_7 (by omega) ?_
    refine go_last X hqo (by omega) (by omega) d_Law_list_8 ?_
    generalize hM2 : m_s M1 q_ 0 (wi32 ((mkl WC nc ns i (0, L, s.1.1, s.2.1.2)).1)) = M1
    have e3 : M1 q_ 0 = wi32 ((mkl WC nc ns i (0, L, s.1.1, s.2.1.2)).1) := by rw [← hM2, m_s_s]
    refine go_goto (tgt := 15) X d_Law_list_9 rfl ?_
    refine go_iconst (v := 0) X d_Law_list_15 ?_
    refine go_iret X d_Law_list_16 rfl ?_ (by omega) (by omega) ?_
    · rfl
    refine ⟨0, _, hd, hcd.symm, rfl, by decide, rfl, fun _ _ => rfl, Int.le_refl _, fun _ => e3, ?_, fun z hz => ?_⟩
    · rw [if_pos hcd, if_pos hcd, if_pos hcd]
      exact p0.off (fun z a b => by rw [← hM2]; exact m_s_a (by omega)) (fun z a b c => by
        rw [← hM2]
        exact m_s_a (fun e => lng_no hqo (e ▸ c)))
    · have hz1 : ¬ ((o ≤ z ∧ z ≤ o + 246) ∨ z = q_ ∨ sz ≤ z) := hz
      rw [← hM2, m_s_a (by omega)]
      exact f1 z (by show ¬ (o ≤ z ∧ z ≤ o + 246); omega)
  · skip
    obtain ⟨e1, e2, e3, hor⟩ := hx
    rw [e1, e2, e3]
    obtain ⟨rfl, hcd⟩ := hor
    refine ⟨12, x_f_hit ⟨by decide, by decide, by decide⟩ w_cl_Law_13 x_c_IA, fun a_ => ?_⟩
    have hn0 : ¬ lsk i = 0 := by rw [hcd]; decide
    show Go g 1 6 sh M (sz + 1) 12 [(0, vr o), (1, vi i), (2, vr q_)] [vr a_]
    refine go_astore_n (lv' := [(3, vr a_), (0, vr o), (1, vi i), (2, vr q_)]) X d_Law_list_12 rfl (by decide) rfl ?_
    refine go_iconst (v := 1) X d_Law_list_13 ?_
    refine go_iret X d_Law_list_14 rfl ?_ (by omega) (by omega) ?_
    · rfl
    refine ⟨1, _, hd, hcd.symm, rfl, by decide, rfl, fun _ _ => rfl, by omega, fun q => absurd q (by decide), ?_, fun z _ => rfl⟩
    rw [if_neg hn0, if_neg hn0, if_neg hn0]
    exact h.mv (by omega) (fun z a b => ⟨rfl, rfl⟩)
set_option maxHeartbeats 4000000 in
set_option maxRecDepth 100000 in
theorem hg_key (l : Launch) (hl : l.stackTraces = false) (D : va_G) {sh : s_S} {M : s_M} {sz o : Int} {s : rnT} {hd : Int} {ns : Int} {O : Int → Int} {Q : Int → Int} {Z : Int → Int} {nr : Int} {t : List Int} {WR : Int → Int} {YR : Int → List Int} {vR : List Int} {nc : Int} {m : Int} {WC : Int → Int} {L : Int → Int} (h : cwd sh M sz o s hd ns O Q Z nr t WR YR vR nc m WC L) {i : Int} (hi : -2147483648 ≤ i ∧ i < 2147483648) {q_ : Int} (hqo : sh q_ = some (.inr (.long, 1))) (hq0 : o + 246 < q_) (hqz : q_ < sz) : SpW l D y_Law_key method_6_code 4 (some .int) [(0, 8, 11, 29)] 12 1 6 [vr o, vi i, vr q_] sh M sz (fun v' sh' M' sz' => ∃ kd vv hd' : Int, kd = kyk m i ∧ vv = (s.2.1.2 (L i)).1.1 ∧ (0 ≤ kd ∧ kd ≤ 2) ∧ v' = some (vi kd) ∧ (∀ z, z < sz → sh' z = sh z) ∧ sz ≤ sz' ∧ (kd = 0 → M' q_ 0 = vv) ∧ cwd sh' M' sz' o s hd' ns O Q Z nr t WR YR vR nc m WC L ∧ fr (fun z => (o ≤ z ∧ z ≤ o + 246) ∨ z = q_ ∨ sz ≤ z) M M') := by
  have q0 := h.1.1
  have q9 : 0 ≤ o := h.sz.1
  refine SpW.ofGo (own := "CiteForgeLaw") (nm := "key") (by decide) rfl rfl (Nat.le_of_ble_eq_true rfl) (lv := [(0, vr o), (1, vi i), (2, vr q_)]) rfl ?_
  intro g X YY
  refine go_aload_n X d_Law_key_0 rfl rfl ?_
  refine go_iconst (v := 0) X d_Law_key_1 ?_
  refine go_aload_n X d_Law_key_2 rfl rfl ?_
  refine go_iload_n X d_Law_key_3 rfl rfl ?_
  refine go_callVx (r := [vi 0, vr q_]) X YY k_Law_25.1.1 k_Law_25.1.2.1 k_Law_25.1.2.2.1 w775 k_Law_25.2.1 k_Law_25.2.2.1 (g_key l hl D h hi) q0 cls10 rfl rfl (by omega) (by decide) (by omega) (by omega) (Nat.le_of_ble_eq_true rfl) d_Law_key_4 (fun v' sh' M1 sz' hp => ?_) (fun E sh' M1 sz' hx => ?_)
  · skip
    obtain ⟨hcd, e1, e2, e3, p0, f1⟩ := hp
    subst e1
    rw [e2, e3]
    show Go g 1 6 sh M1 sz 7 [(0, vr o), (1, vi i), (2, vr q_)] [vl ((s.2.1.2 (L i)).1.1), vi 0, vr q_]
    refine go_last X hqo (by omega) (by omega) d_Law_key_7 ?_
    generalize hM2 : m_s M1 q_ 0 ((s.2.1.2 (L i)).1.1) = M1
    have e3 : M1 q_ 0 = (s.2.1.2 (L i)).1.1 := by rw [← hM2, m_s_s]
    refine go_goto (tgt := 14) X d_Law_key_8 rfl ?_
    refine go_iconst (v := 0) X d_Law_key_14 ?_
    refine go_iret X d_Law_key_15 rfl ?_ (by omega) (by omega) ?_
    · rfl
    refine ⟨0, _, hd, hcd.symm, rfl, by decide, rfl, fun _ _ => rfl, Int.le_refl _, fun _ => e3, ?_, fun z hz => ?_⟩
    · skip
      exact p0.off (fun z a b => by rw [← hM2]; exact m_s_a (by omega)) (fun z a b c => by
        rw [← hM2]
        exact m_s_a (fun e => lng_no hqo (e ▸ c)))
    · have hz1 : ¬ ((o ≤ z ∧ z ≤ o + 246) ∨ z = q_ ∨ sz ≤ z) := hz
      rw [← hM2, m_s_a (by omega)]
      exact f1 z (by show ¬ (o ≤ z ∧ z ≤ o + 246); omega)
  · skip
    obtain ⟨e1, e2, e3, hor⟩ := hx
    rw [e1, e2, e3]
    obtain ⟨rfl, hcd⟩ := hor
    refine ⟨11, x_f_hit ⟨by decide, by decide, by decide⟩ w_cl_Law_29 x_c_IOOB, fun a_ => ?_⟩
    have hn0 : ¬ kyk m i = 0 := by rw [hcd]; decide
    show Go g 1 6 sh M (sz + 1) 11 [(0, vr o), (1, vi i), (2, vr q_)] [vr a_]
    refine go_astore_n (lv' := [(3, vr a_), (0, vr o), (1, vi i), (2, vr q_)]) X d_Law_key_11 rfl (by decide) rfl ?_
    refine go_iconst (v := 1) X d_Law_key_12 ?_
    refine go_iret X d_Law_key_13 rfl ?_ (by omega) (by omega) ?_
    · rfl
    refine ⟨1, _, hd, hcd.symm, rfl, by decide, rfl, fun _ _ => rfl, by omega, fun q => absurd q (by decide), ?_, fun z _ => rfl⟩
    exact h.mv (by omega) (fun z a b => ⟨rfl, rfl⟩)
set_option maxHeartbeats 4000000 in
set_option maxRecDepth 100000 in
theorem hg_field (l : Launch) (hl : l.stackTraces = false) (D : va_G) {sh : s_S} {M : s_M} {sz o : Int} {s : rnT} {hd : Int} {ns : Int} {O : Int → Int} {Q : Int → Int} {Z : Int → Int} {nr : Int} {t : List Int} {WR : Int → Int} {YR : Int → List Int} {vR : List Int} {nc : Int} {m : Int} {WC : Int → Int} {L : Int → Int} (h : cwd sh M sz o s hd ns O Q Z nr t WR YR vR nc m WC L) {i x j : Int} (hi : -2147483648 ≤ i ∧ i < 2147483648) (hj : -2147483648 ≤ j ∧ j < 2147483648) (hx : 0 ≤ x ∧ x < 18446744073709551616) {q_ : Int} (hqo : sh q_ = some (.inr (.long, 1))) (hq0 : o + 246 < q_) (hqz : q_ < sz) : SpW l D y_Law_field method_7_code 7 (some .int) [(0, 13, 16, 29), (0, 13, 20, 35)] 12 1 6 [vr o, vi i, vl x, vi j, vr q_] sh M sz (fun v' sh' M' sz' => ∃ kd vv hd' : Int, kd = fik s.2.1.2 ns m L i (wof x) j ∧ vv = fiv s.2.1.2 ns L i (wof x) j ∧ (0 ≤ kd ∧ kd ≤ 2) ∧ v' = some (vi kd) ∧ (∀ z, z < sz → sh' z = sh z) ∧ sz ≤ sz' ∧ (kd = 0 → M' q_ 0 = wi32 vv) ∧ cwd sh' M' sz' o s hd' ns O Q Z nr t WR YR vR nc m WC L ∧ fr (fun z => (o ≤ z ∧ z ≤ o + 246) ∨ z = q_ ∨ sz ≤ z) M M') := by
  have q0 := h.1.1
  have q9 : 0 ≤ o := h.sz.1
  refine SpW.ofGo (own := "CiteForgeLaw") (nm := "field") (by decide) rfl rfl (Nat.le_of_ble_eq_true rfl) (lv := [(0, vr o), (1, vi i), (2, vl x), (4, vi j), (5, vr q_)]) rfl ?_
  intro g X YY
  refine go_aload X d_Law_field_0 rfl ?_
  refine go_iconst (v := 0) X d_Law_field_2 ?_
  refine go_aload_n X d_Law_field_3 rfl rfl ?_
  refine go_iload_n X d_Law_field_4 rfl rfl ?_
  refine go_lload_n X d_Law_field_5 rfl rfl ?_
  refine go_iload X d_Law_field_6 rfl ?_
  refine go_callVx (r := [vi 0, vr q_]) X YY k_Law_31.1.1 k_Law_31.1.2.1 k_Law_31.1.2.2.1 w806 k_Law_31.2.1 k_Law_31.2.2.1 (g_field l hl D h hi hj hx) q0 cls10 rfl rfl (by omega) (by decide) (by omega) (by omega) (Nat.le_of_ble_eq_true rfl) d_Law_field_8 (fun v' sh' M1 sz' hp => ?_) (fun E sh' M1 sz' hx => ?_)
  · skip
    obtain ⟨hcd, e1, e2, e3, p0, f1⟩ := hp
    subst e1
    rw [e2, e3]
    show Go g 1 6 sh M1 sz 11 [(0, vr o), (1, vi i), (2, vl x), (4, vi j), (5, vr q_)] [vi (fiv s.2.1.2 ns L i (wof x) j), vi 0, vr q_]
    refine go_top (v' := vi (wi32 (fiv s.2.1.2 ns L i (wof x) j))) X (wi32_vi _) ?_
    have hv0 := wi32_rng (fiv s.2.1.2 ns L i (wof x) j)
    refine go_i2l X d_Law_field_11 (by omega) ?_
    refine go_last X hqo (by omega) (by omega) d_Law_field_12 ?_
    generalize hM2 : m_s M1 q_ 0 (wi32 (fiv s.2.1.2 ns L i (wof x) j)) = M1
    have e3 : M1 q_ 0 = wi32 (fiv s.2.1.2 ns L i (wof x) j) := by rw [← hM2, m_s_s]
    refine go_goto (tgt := 24) X d_Law_field_13 rfl ?_
    refine go_iconst (v := 0) X d_Law_field_24 ?_
    refine go_iret X d_Law_field_25 rfl ?_ (by omega) (by omega) ?_
    · rfl
    refine ⟨0, _, hd, hcd.symm, rfl, by decide, rfl, fun _ _ => rfl, Int.le_refl _, fun _ => e3, ?_, fun z hz => ?_⟩
    · skip
      exact p0.off (fun z a b => by rw [← hM2]; exact m_s_a (by omega)) (fun z a b c => by
        rw [← hM2]
        exact m_s_a (fun e => lng_no hqo (e ▸ c)))
    · have hz1 : ¬ ((o ≤ z ∧ z ≤ o + 246) ∨ z = q_ ∨ sz ≤ z) := hz
      rw [← hM2, m_s_a (by omega)]
      exact f1 z (by show ¬ (o ≤ z ∧ z ≤ o + 246); omega)
  · skip
    obtain ⟨e1, e2, e3, hor⟩ := hx
    rw [e1, e2, e3]
    rcases hor with ⟨rfl, hcd⟩ | ⟨rfl, hcd⟩
    · skip
      refine ⟨16, x_f_hit ⟨by decide, by decide, by decide⟩ w_cl_Law_29 x_c_IOOB, fun a_ => ?_⟩
      have hn0 : ¬ fik s.2.1.2 ns m L i (wof x) j = 0 := by rw [hcd]; decide
      show Go g 1 6 sh M (sz + 1) 16 [(0, vr o), (1, vi i), (2, vl x), (4, vi j), (5, vr q_)] [vr a_]
      refine go_astore (lv' := [(6, vr a_), (0, vr o), (1, vi i), (2, vl x), (4, vi j), (5, vr q_)]) X d_Law_field_16 (by decide) rfl ?_
      refine go_iconst (v := 1) X d_Law_field_18 ?_
      refine go_iret X d_Law_field_19 rfl ?_ (by omega) (by omega) ?_
      · rfl
      refine ⟨1, _, hd, hcd.symm, rfl, by decide, rfl, fun _ _ => rfl, by omega, fun q => absurd q (by decide), ?_, fun z _ => rfl⟩
      exact h.mv (by omega) (fun z a b => ⟨rfl, rfl⟩)
    · skip
      refine ⟨20, x_f_skip ⟨by decide, by decide, by decide⟩ w_cl_Law_29 (by simp [ncAll]) (x_f_hit ⟨by decide, by decide, by decide⟩ w_cl_Law_35 x_c_NSE), fun a_ => ?_⟩
      have hn0 : ¬ fik s.2.1.2 ns m L i (wof x) j = 0 := by rw [hcd]; decide
      show Go g 1 6 sh M (sz + 1) 20 [(0, vr o), (1, vi i), (2, vl x), (4, vi j), (5, vr q_)] [vr a_]
      refine go_astore (lv' := [(6, vr a_), (0, vr o), (1, vi i), (2, vl x), (4, vi j), (5, vr q_)]) X d_Law_field_20 (by decide) rfl ?_
      refine go_iconst (v := 2) X d_Law_field_22 ?_
      refine go_iret X d_Law_field_23 rfl ?_ (by omega) (by omega) ?_
      · rfl
      refine ⟨2, _, hd, hcd.symm, rfl, by decide, rfl, fun _ _ => rfl, by omega, fun q => absurd q (by decide), ?_, fun z _ => rfl⟩
      exact h.mv (by omega) (fun z a b => ⟨rfl, rfl⟩)
set_option maxHeartbeats 4000000 in
set_option maxRecDepth 100000 in
theorem hg_define (l : Launch) (hl : l.stackTraces = false) (D : va_G) {sh : s_S} {M : s_M} {sz o : Int} {s : rnT} {hd : Int} {ns : Int} {O : Int → Int} {Q : Int → Int} {Z : Int → Int} {nr : Int} {t : List Int} {WR : Int → Int} {YR : Int → List Int} {vR : List Int} {nc : Int} {m : Int} {WC : Int → Int} {L : Int → Int} (h : cwd sh M sz o s hd ns O Q Z nr t WR YR vR nc m WC L) {f q v : Int} (hf : -2147483648 ≤ f ∧ f < 2147483648) (hq : -2147483648 ≤ q ∧ q < 2147483648) (hv : rL v) (hZ : zok Z) {q_ : Int} (hqo : sh q_ = some (.inr (.long, 1))) (hq0 : o + 246 < q_) (hqz : q_ < sz) : SpW l D y_Law_define method_8_code 7 (some .int) [(0, 12, 15, 13), (0, 12, 19, 15)] 12 1 6 [vr o, vi f, vi q, vl v, vr q_] sh M sz (fun v' sh' M' sz' => ∃ kd vv hd' : Int, kd = dek Z f q ∧ vv = Z f + 1 ∧ (0 ≤ kd ∧ kd ≤ 2) ∧ v' = some (vi kd) ∧ (∀ z, z < sz → sh' z = sh z) ∧ sz ≤ sz' ∧ (kd = 0 → M' q_ 0 = wi32 vv) ∧ cwd sh' M' sz' o s hd' ns (if dek Z f q = 0 then (rset O (f * 24 + Z f) q) else O) (if dek Z f q = 0 then (rset Q (f * 24 + Z f) (if 13 ≤ q then max v 0 else v)) else Q) (if dek Z f q = 0 then (inc Z f) else Z) nr t WR YR vR nc m WC L ∧ fr (fun z => (o ≤ z ∧ z ≤ o + 246) ∨ z = q_ ∨ sz ≤ z) M M') := by
  have q0 := h.1.1
  have q9 : 0 ≤ o := h.sz.1
  refine SpW.ofGo (own := "CiteForgeLaw") (nm := "define") (by decide) rfl rfl (Nat.le_of_ble_eq_true rfl) (lv := [(0, vr o), (1, vi f), (2, vi q), (3, vl v), (5, vr q_)]) rfl ?_
  intro g X YY
  refine go_aload X d_Law_define_0 rfl ?_
  refine go_iconst (v := 0) X d_Law_define_2 ?_
  refine go_aload_n X d_Law_define_3 rfl rfl ?_
  refine go_iload_n X d_Law_define_4 rfl rfl ?_
  refine go_iload_n X d_Law_define_5 rfl rfl ?_
  refine go_lload_n X d_Law_define_6 rfl rfl ?_
  refine go_callVx (r := [vi 0, vr q_]) X YY k_Law_37.1.1 k_Law_37.1.2.1 k_Law_37.1.2.2.1 w839 k_Law_37.2.1 k_Law_37.2.2.1 (g_define l hl D h hf hq hv hZ) q0 cls10 rfl rfl (by omega) (by decide) (by omega) (by omega) (Nat.le_of_ble_eq_true rfl) d_Law_define_7 (fun v' sh' M1 sz' hp => ?_) (fun E sh' M1 sz' hx => ?_)
  · skip
    obtain ⟨hcd, e1, e2, e3, p0, f1⟩ := hp
    subst e1
    rw [e2, e3]
    show Go g 1 6 sh M1 sz 10 [(0, vr o), (1, vi f), (2, vi q), (3, vl v), (5, vr q_)] [vi (Z f + 1), vi 0, vr q_]
    refine go_top (v' := vi (wi32 (Z f + 1))) X (wi32_vi _) ?_
    have hv0 := wi32_rng (Z f + 1)
    refine go_i2l X d_Law_define_10 (by omega) ?_
    refine go_last X hqo (by omega) (by omega) d_Law_define_11 ?_
    generalize hM2 : m_s M1 q_ 0 (wi32 (Z f + 1)) = M1
    have e3 : M1 q_ 0 = wi32 (Z f + 1) := by rw [← hM2, m_s_s]
    refine go_goto (tgt := 23) X d_Law_define_12 rfl ?_
    refine go_iconst (v := 0) X d_Law_define_23 ?_
    refine go_iret X d_Law_define_24 rfl ?_ (by omega) (by omega) ?_
    · rfl
    refine ⟨0, _, hd, hcd.symm, rfl, by decide, rfl, fun _ _ => rfl, Int.le_refl _, fun _ => e3, ?_, fun z hz => ?_⟩
    · rw [if_pos hcd, if_pos hcd, if_pos hcd]
      exact p0.off (fun z a b => by rw [← hM2]; exact m_s_a (by omega)) (fun z a b c => by
        rw [← hM2]
        exact m_s_a (fun e => lng_no hqo (e ▸ c)))
    · have hz1 : ¬ ((o ≤ z ∧ z ≤ o + 246) ∨ z = q_ ∨ sz ≤ z) := hz
      rw [← hM2, m_s_a (by omega)]
      exact f1 z (by show ¬ (o ≤ z ∧ z ≤ o + 246); omega)
  · skip
    obtain ⟨e1, e2, e3, hor⟩ := hx
    rw [e1, e2, e3]
    rcases hor with ⟨rfl, hcd⟩ | ⟨rfl, hcd⟩
    · skip
      refine ⟨15, x_f_hit ⟨by decide, by decide, by decide⟩ w_cl_Law_13 x_c_IA, fun a_ => ?_⟩
      have hn0 : ¬ dek Z f q = 0 := by rw [hcd]; decide
      show Go g 1 6 sh M (sz + 1) 15 [(0, vr o), (1, vi f), (2, vi q), (3, vl v), (5, vr q_)] [vr a_]
      refine go_astore (lv' := [(6, vr a_), (0, vr o), (1, vi f), (2, vi q), (3, vl v), (5, vr q_)]) X d_Law_define_15 (by decide) rfl ?_
      refine go_iconst (v := 1) X d_Law_define_17 ?_
      refine go_iret X d_Law_define_18 rfl ?_ (by omega) (by omega) ?_
      · rfl
      refine ⟨1, _, hd, hcd.symm, rfl, by decide, rfl, fun _ _ => rfl, by omega, fun q => absurd q (by decide), ?_, fun z _ => rfl⟩
      rw [if_neg hn0, if_neg hn0, if_neg hn0]
      exact h.mv (by omega) (fun z a b => ⟨rfl, rfl⟩)
    · skip
      refine ⟨19, x_f_skip ⟨by decide, by decide, by decide⟩ w_cl_Law_13 (by simp [ncAll]) (x_f_hit ⟨by decide, by decide, by decide⟩ w_cl_Law_15 x_c_IS), fun a_ => ?_⟩
      have hn0 : ¬ dek Z f q = 0 := by rw [hcd]; decide
      show Go g 1 6 sh M (sz + 1) 19 [(0, vr o), (1, vi f), (2, vi q), (3, vl v), (5, vr q_)] [vr a_]
      refine go_astore (lv' := [(6, vr a_), (0, vr o), (1, vi f), (2, vi q), (3, vl v), (5, vr q_)]) X d_Law_define_19 (by decide) rfl ?_
      refine go_iconst (v := 2) X d_Law_define_21 ?_
      refine go_iret X d_Law_define_22 rfl ?_ (by omega) (by omega) ?_
      · rfl
      refine ⟨2, _, hd, hcd.symm, rfl, by decide, rfl, fun _ _ => rfl, by omega, fun q => absurd q (by decide), ?_, fun z _ => rfl⟩
      rw [if_neg hn0, if_neg hn0, if_neg hn0]
      exact h.mv (by omega) (fun z a b => ⟨rfl, rfl⟩)
set_option maxHeartbeats 4000000 in
set_option maxRecDepth 100000 in
theorem hg_clear (l : Launch) (hl : l.stackTraces = false) (D : va_G) {sh : s_S} {M : s_M} {sz o : Int} {s : rnT} {hd : Int} {ns : Int} {O : Int → Int} {Q : Int → Int} {Z : Int → Int} {nr : Int} {t : List Int} {WR : Int → Int} {YR : Int → List Int} {vR : List Int} {nc : Int} {m : Int} {WC : Int → Int} {L : Int → Int} (h : cwd sh M sz o s hd ns O Q Z nr t WR YR vR nc m WC L) {f : Int} (hf : -2147483648 ≤ f ∧ f < 2147483648) (hZ : zok Z) {q_ : Int} (hqo : sh q_ = some (.inr (.long, 1))) (hq0 : o + 246 < q_) (hqz : q_ < sz) : SpW l D y_Law_clear method_9_code 4 (some .int) [(0, 9, 12, 13)] 12 1 6 [vr o, vi f, vr q_] sh M sz (fun v' sh' M' sz' => ∃ kd vv hd' : Int, kd = clk f ∧ vv = Z f ∧ (0 ≤ kd ∧ kd ≤ 2) ∧ v' = some (vi kd) ∧ (∀ z, z < sz → sh' z = sh z) ∧ sz ≤ sz' ∧ (kd = 0 → M' q_ 0 = wi32 vv) ∧ cwd sh' M' sz' o s hd' ns O Q (if clk f = 0 then (rset Z f 0) else Z) nr t WR YR vR nc m WC L ∧ fr (fun z => (o ≤ z ∧ z ≤ o + 246) ∨ z = q_ ∨ sz ≤ z) M M') := by
  have q0 := h.1.1
  have q9 : 0 ≤ o := h.sz.1
  refine SpW.ofGo (own := "CiteForgeLaw") (nm := "clear") (by decide) rfl rfl (Nat.le_of_ble_eq_true rfl) (lv := [(0, vr o), (1, vi f), (2, vr q_)]) rfl ?_
  intro g X YY
  refine go_aload_n X d_Law_clear_0 rfl rfl ?_
  refine go_iconst (v := 0) X d_Law_clear_1 ?_
  refine go_aload_n X d_Law_clear_2 rfl rfl ?_
  refine go_iload_n X d_Law_clear_3 rfl rfl ?_
  refine go_callVx (r := [vi 0, vr q_]) X YY k_Law_41.1.1 k_Law_41.1.2.1 k_Law_41.1.2.2.1 w863 k_Law_41.2.1 k_Law_41.2.2.1 (g_clear l hl D h hf hZ) q0 cls10 rfl rfl (by omega) (by decide) (by omega) (by omega) (Nat.le_of_ble_eq_true rfl) d_Law_clear_4 (fun v' sh' M1 sz' hp => ?_) (fun E sh' M1 sz' hx => ?_)
  · skip
    obtain ⟨hcd, e1, e2, e3, p0, f1⟩ := hp
    subst e1
    rw [e2, e3]
    show Go g 1 6 sh M1 sz 7 [(0, vr o), (1, vi f), (2, vr q_)] [vi (Z f), vi 0, vr q_]
    refine go_top (v' := vi (wi32 (Z f))) X (wi32_vi _) ?_
    have hv0 := wi32_rng (Z f)
    refine go_i2l X d_Law_clear_7 (by omega) ?_
    refine go_last X hqo (by omega) (by omega) d_Law_clear_8 ?_
    generalize hM2 : m_s M1 q_ 0 (wi32 (Z f)) = M1
    have e3 : M1 q_ 0 = wi32 (Z f) := by rw [← hM2, m_s_s]
    refine go_goto (tgt := 15) X d_Law_clear_9 rfl ?_
    refine go_iconst (v := 0) X d_Law_clear_15 ?_
    refine go_iret X d_Law_clear_16 rfl ?_ (by omega) (by omega) ?_
    · rfl
    refine ⟨0, _, hd, hcd.symm, rfl, by decide, rfl, fun _ _ => rfl, Int.le_refl _, fun _ => e3, ?_, fun z hz => ?_⟩
    · rw [if_pos hcd]
      exact p0.off (fun z a b => by rw [← hM2]; exact m_s_a (by omega)) (fun z a b c => by
        rw [← hM2]
        exact m_s_a (fun e => lng_no hqo (e ▸ c)))
    · have hz1 : ¬ ((o ≤ z ∧ z ≤ o + 246) ∨ z = q_ ∨ sz ≤ z) := hz
      rw [← hM2, m_s_a (by omega)]
      exact f1 z (by show ¬ (o ≤ z ∧ z ≤ o + 246); omega)
  · skip
    obtain ⟨e1, e2, e3, hor⟩ := hx
    rw [e1, e2, e3]
    obtain ⟨rfl, hcd⟩ := hor
    refine ⟨12, x_f_hit ⟨by decide, by decide, by decide⟩ w_cl_Law_13 x_c_IA, fun a_ => ?_⟩
    have hn0 : ¬ clk f = 0 := by rw [hcd]; decide
    show Go g 1 6 sh M (sz + 1) 12 [(0, vr o), (1, vi f), (2, vr q_)] [vr a_]
    refine go_astore_n (lv' := [(3, vr a_), (0, vr o), (1, vi f), (2, vr q_)]) X d_Law_clear_12 rfl (by decide) rfl ?_
    refine go_iconst (v := 1) X d_Law_clear_13 ?_
    refine go_iret X d_Law_clear_14 rfl ?_ (by omega) (by omega) ?_
    · rfl
    refine ⟨1, _, hd, hcd.symm, rfl, by decide, rfl, fun _ _ => rfl, by omega, fun q => absurd q (by decide), ?_, fun z _ => rfl⟩
    rw [if_neg hn0]
    exact h.mv (by omega) (fun z a b => ⟨rfl, rfl⟩)
set_option maxHeartbeats 4000000 in
set_option maxRecDepth 100000 in
theorem hg_run (l : Launch) (hl : l.stackTraces = false) (D : va_G) {sh : s_S} {M : s_M} {sz o : Int} {s : rnT} {hd : Int} {ns : Int} {O : Int → Int} {Q : Int → Int} {Z : Int → Int} {nr : Int} {t : List Int} {WR : Int → Int} {YR : Int → List Int} {vR : List Int} {nc : Int} {m : Int} {WC : Int → Int} {L : Int → Int} (h : cwd sh M sz o s hd ns O Q Z nr t WR YR vR nc m WC L) {f y : Int} (hf : -2147483648 ≤ f ∧ f < 2147483648) (hy : -2147483648 ≤ y ∧ y < 2147483648) (hok : opk O Q Z) (hr : rok (zdn s)) {q_ : Int} (hqo : sh q_ = some (.inr (.long, 1))) (hq0 : o + 246 < q_) (hqz : q_ < sz) : SpW l D y_Law_run method_10_code 5 (some .int) [(0, 10, 13, 13), (0, 10, 17, 48)] 40 (kc s.2.2.1.1 (srn ns O Q Z L m f y s).2.2.2.1.1 + 1) (91 * kc s.2.2.1.1 (srn ns O Q Z L m f y s).2.2.2.1.1 + 6) [vr o, vi f, vi y, vr q_] sh M sz (fun v' sh' M' sz' => ∃ kd vv hd' : Int, kd = ruk ns O Q Z L m f y s ∧ vv = (srn ns O Q Z L m f y s).2.2.2.2.1 ∧ (0 ≤ kd ∧ kd ≤ 2) ∧ v' = some (vi kd) ∧ (∀ z, z < sz → sh' z = sh z) ∧ sz ≤ sz' ∧ (kd = 0 → M' q_ 0 = wi32 vv) ∧ cwd sh' M' sz' o (if ruk ns O Q Z L m f y s = 1 then s else (srn ns O Q Z L m f y s).2) hd' ns O Q Z nr t WR YR vR nc m WC L ∧ fr (fun z => (o ≤ z ∧ z ≤ o + 246) ∨ z = q_ ∨ sz ≤ z) M M') := by
  have q0 := h.1.1
  have q9 : 0 ≤ o := h.sz.1
  refine SpW.ofGo (own := "CiteForgeLaw") (nm := "run") (by decide) rfl rfl (Nat.le_of_ble_eq_true rfl) (lv := [(0, vr o), (1, vi f), (2, vi y), (3, vr q_)]) rfl ?_
  intro g X YY
  refine go_aload_n X d_Law_run_0 rfl rfl ?_
  refine go_iconst (v := 0) X d_Law_run_1 ?_
  refine go_aload_n X d_Law_run_2 rfl rfl ?_
  refine go_iload_n X d_Law_run_3 rfl rfl ?_
  refine go_iload_n X d_Law_run_4 rfl rfl ?_
  refine go_callVx (r := [vi 0, vr q_]) X YY k_Law_44.1.1 k_Law_44.1.2.1 k_Law_44.1.2.2.1 w875 k_Law_44.2.1 k_Law_44.2.2.1 (g_run l hl D h hf hy hok hr) q0 cls10 rfl rfl (by omega) (by decide) (by omega) (by omega) (Nat.le_of_ble_eq_true rfl) d_Law_run_5 (fun v' sh' M1 sz' hp => ?_) (fun E sh' M1 sz' hx => ?_)
  · skip
    obtain ⟨hcd, e1, ez, es, ⟨hd', p0⟩, f1⟩ := hp
    subst e1
    have hqo1 : sh' q_ = some (.inr (.long, 1)) := (es q_ hqz).trans hqo
    show Go g (0 + (kc s.2.2.1.1 (srn ns O Q Z L m f y s).2.2.2.1.1 + 1)) (0 + (91 * kc s.2.2.1.1 (srn ns O Q Z L m f y s).2.2.2.1.1 + 6)) sh' M1 sz' 8 [(0, vr o), (1, vi f), (2, vi y), (3, vr q_)] [vi ((srn ns O Q Z L m f y s).2.2.2.2.1), vi 0, vr q_]
    refine go_top (v' := vi (wi32 ((srn ns O Q Z L m f y s).2.2.2.2.1))) X (wi32_vi _) ?_
    have hv0 := wi32_rng ((srn ns O Q Z L m f y s).2.2.2.2.1)
    refine go_i2l X d_Law_run_8 (by omega) ?_
    refine go_last X hqo1 (by omega) (by omega) d_Law_run_9 ?_
    generalize hM2 : m_s M1 q_ 0 (wi32 ((srn ns O Q Z L m f y s).2.2.2.2.1)) = M1
    have e3 : M1 q_ 0 = wi32 ((srn ns O Q Z L m f y s).2.2.2.2.1) := by rw [← hM2, m_s_s]
    refine go_goto (tgt := 21) X d_Law_run_10 rfl ?_
    refine go_iconst (v := 0) X d_Law_run_21 ?_
    refine go_iret X d_Law_run_22 rfl ?_ (by omega) (by omega) ?_
    · rfl
    refine ⟨0, _, hd', hcd.symm, rfl, by decide, rfl, es, by omega, fun _ => e3, ?_, fun z hz => ?_⟩
    · rw [if_neg (show ¬ ruk ns O Q Z L m f y s = 1 by rw [hcd]; decide)]
      exact p0.off (fun z a b => by rw [← hM2]; exact m_s_a (by omega)) (fun z a b c => by
        rw [← hM2]
        exact m_s_a (fun e => lng_no hqo1 (e ▸ c)))
    · have hz1 : ¬ ((o ≤ z ∧ z ≤ o + 246) ∨ z = q_ ∨ sz ≤ z) := hz
      rw [← hM2, m_s_a (by omega)]
      exact f1 z (by show ¬ ((o ≤ z ∧ z ≤ o + 246) ∨ sz ≤ z); omega)
  · skip
    rcases hx with ⟨rfl, e1, e2, e3, hcd⟩ | ⟨rfl, hcd, ⟨zn, ez, ez2⟩, es, ⟨hd', p0⟩, f1⟩
    · skip
      rw [e1, e2, e3]
      refine ⟨13, x_f_hit ⟨by decide, by decide, by decide⟩ w_cl_Law_13 x_c_IA, fun a_ => ?_⟩
      have hn0 : ¬ ruk ns O Q Z L m f y s = 0 := by rw [hcd]; decide
      show Go g (0 + (kc s.2.2.1.1 (srn ns O Q Z L m f y s).2.2.2.1.1 + 1)) (0 + (91 * kc s.2.2.1.1 (srn ns O Q Z L m f y s).2.2.2.1.1 + 6)) sh M (sz + 1) 13 [(0, vr o), (1, vi f), (2, vi y), (3, vr q_)] [vr a_]
      refine go_astore (lv' := [(4, vr a_), (0, vr o), (1, vi f), (2, vi y), (3, vr q_)]) X d_Law_run_13 (by decide) rfl ?_
      refine go_iconst (v := 1) X d_Law_run_15 ?_
      refine go_iret X d_Law_run_16 rfl ?_ (by omega) (by omega) ?_
      · rfl
      refine ⟨1, _, hd, hcd.symm, rfl, by decide, rfl, fun _ _ => rfl, by omega, fun q => absurd q (by decide), ?_, fun z _ => rfl⟩
      rw [if_pos hcd]
      exact h.mv (by omega) (fun z a b => ⟨rfl, rfl⟩)
    · skip
      refine ⟨17, x_f_skip ⟨by decide, by decide, by decide⟩ w_cl_Law_13 (by simp [ncAll]) (x_f_hit ⟨by decide, by decide, by decide⟩ w_cl_Law_48 x_c_UO), fun a_ => ?_⟩
      have hn0 : ¬ ruk ns O Q Z L m f y s = 0 := by rw [hcd]; decide
      show Go g (0 + (kc s.2.2.1.1 (srn ns O Q Z L m f y s).2.2.2.1.1 + 1)) (0 + (91 * kc s.2.2.1.1 (srn ns O Q Z L m f y s).2.2.2.1.1 + 6)) sh' M1 sz' 17 [(0, vr o), (1, vi f), (2, vi y), (3, vr q_)] [vr a_]
      refine go_astore (lv' := [(4, vr a_), (0, vr o), (1, vi f), (2, vi y), (3, vr q_)]) X d_Law_run_17 (by decide) rfl ?_
      refine go_iconst (v := 2) X d_Law_run_19 ?_
      refine go_iret X d_Law_run_20 rfl ?_ (by omega) (by omega) ?_
      · rfl
      refine ⟨2, _, hd', hcd.symm, rfl, by decide, rfl, es, by omega, fun q => absurd q (by decide), ?_, fun z hz => f1 z (fun y => hz (by rcases y with y | y; exact Or.inl y; exact Or.inr (Or.inr y)))⟩
      rw [if_neg (show ¬ ruk ns O Q Z L m f y s = 1 by rw [hcd]; decide)]
      exact p0
set_option maxHeartbeats 4000000 in
set_option maxRecDepth 100000 in
theorem hg_kind (l : Launch) (hl : l.stackTraces = false) (D : va_G) {sh : s_S} {M : s_M} {sz o : Int} {s : rnT} {hd : Int} {ns : Int} {O : Int → Int} {Q : Int → Int} {Z : Int → Int} {nr : Int} {t : List Int} {WR : Int → Int} {YR : Int → List Int} {vR : List Int} {nc : Int} {m : Int} {WC : Int → Int} {L : Int → Int} (h : cwd sh M sz o s hd ns O Q Z nr t WR YR vR nc m WC L) {i : Int} (hi : -2147483648 ≤ i ∧ i < 2147483648) {q_ : Int} (hqo : sh q_ = some (.inr (.long, 1))) (hq0 : o + 246 < q_) (hqz : q_ < sz) : SpW l D y_Law_kind method_11_code 4 (some .int) [(0, 9, 12, 29)] 12 1 6 [vr o, vi i, vr q_] sh M sz (fun v' sh' M' sz' => ∃ kd vv hd' : Int, kd = kyk s.1.2.1 i ∧ vv = (s.1.2.2 (s.1.2.1 - 1 - i)).1 ∧ (0 ≤ kd ∧ kd ≤ 2) ∧ v' = some (vi kd) ∧ (∀ z, z < sz → sh' z = sh z) ∧ sz ≤ sz' ∧ (kd = 0 → M' q_ 0 = wi32 vv) ∧ cwd sh' M' sz' o s hd' ns O Q Z nr t WR YR vR nc m WC L ∧ fr (fun z => (o ≤ z ∧ z ≤ o + 246) ∨ z = q_ ∨ sz ≤ z) M M') := by
  have q0 := h.1.1
  have q9 : 0 ≤ o := h.sz.1
  refine SpW.ofGo (own := "CiteForgeLaw") (nm := "kind") (by decide) rfl rfl (Nat.le_of_ble_eq_true rfl) (lv := [(0, vr o), (1, vi i), (2, vr q_)]) rfl ?_
  intro g X YY
  refine go_aload_n X d_Law_kind_0 rfl rfl ?_
  refine go_iconst (v := 0) X d_Law_kind_1 ?_
  refine go_aload_n X d_Law_kind_2 rfl rfl ?_
  refine go_iload_n X d_Law_kind_3 rfl rfl ?_
  refine go_callVx (r := [vi 0, vr q_]) X YY k_Law_50.1.1 k_Law_50.1.2.1 k_Law_50.1.2.2.1 w1175 k_Law_50.2.1 k_Law_50.2.2.1 (g_kind l hl D h hi) q0 cls10 rfl rfl (by omega) (by decide) (by omega) (by omega) (Nat.le_of_ble_eq_true rfl) d_Law_kind_4 (fun v' sh' M1 sz' hp => ?_) (fun E sh' M1 sz' hx => ?_)
  · skip
    obtain ⟨hcd, e1, e2, e3, p0, f1⟩ := hp
    subst e1
    rw [e2, e3]
    show Go g 1 6 sh M1 sz 7 [(0, vr o), (1, vi i), (2, vr q_)] [vi ((s.1.2.2 (s.1.2.1 - 1 - i)).1), vi 0, vr q_]
    refine go_top (v' := vi (wi32 ((s.1.2.2 (s.1.2.1 - 1 - i)).1))) X (wi32_vi _) ?_
    have hv0 := wi32_rng ((s.1.2.2 (s.1.2.1 - 1 - i)).1)
    refine go_i2l X d_Law_kind_7 (by omega) ?_
    refine go_last X hqo (by omega) (by omega) d_Law_kind_8 ?_
    generalize hM2 : m_s M1 q_ 0 (wi32 ((s.1.2.2 (s.1.2.1 - 1 - i)).1)) = M1
    have e3 : M1 q_ 0 = wi32 ((s.1.2.2 (s.1.2.1 - 1 - i)).1) := by rw [← hM2, m_s_s]
    refine go_goto (tgt := 15) X d_Law_kind_9 rfl ?_
    refine go_iconst (v := 0) X d_Law_kind_15 ?_
    refine go_iret X d_Law_kind_16 rfl ?_ (by omega) (by omega) ?_
    · rfl
    refine ⟨0, _, hd, hcd.symm, rfl, by decide, rfl, fun _ _ => rfl, Int.le_refl _, fun _ => e3, ?_, fun z hz => ?_⟩
    · skip
      exact p0.off (fun z a b => by rw [← hM2]; exact m_s_a (by omega)) (fun z a b c => by
        rw [← hM2]
        exact m_s_a (fun e => lng_no hqo (e ▸ c)))
    · have hz1 : ¬ ((o ≤ z ∧ z ≤ o + 246) ∨ z = q_ ∨ sz ≤ z) := hz
      rw [← hM2, m_s_a (by omega)]
      exact f1 z (by show ¬ (o ≤ z ∧ z ≤ o + 246); omega)
  · skip
    obtain ⟨e1, e2, e3, hor⟩ := hx
    rw [e1, e2, e3]
    obtain ⟨rfl, hcd⟩ := hor
    refine ⟨12, x_f_hit ⟨by decide, by decide, by decide⟩ w_cl_Law_29 x_c_IOOB, fun a_ => ?_⟩
    have hn0 : ¬ kyk s.1.2.1 i = 0 := by rw [hcd]; decide
    show Go g 1 6 sh M (sz + 1) 12 [(0, vr o), (1, vi i), (2, vr q_)] [vr a_]
    refine go_astore_n (lv' := [(3, vr a_), (0, vr o), (1, vi i), (2, vr q_)]) X d_Law_kind_12 rfl (by decide) rfl ?_
    refine go_iconst (v := 1) X d_Law_kind_13 ?_
    refine go_iret X d_Law_kind_14 rfl ?_ (by omega) (by omega) ?_
    · rfl
    refine ⟨1, _, hd, hcd.symm, rfl, by decide, rfl, fun _ _ => rfl, by omega, fun q => absurd q (by decide), ?_, fun z _ => rfl⟩
    exact h.mv (by omega) (fun z a b => ⟨rfl, rfl⟩)
set_option maxHeartbeats 4000000 in
set_option maxRecDepth 100000 in
theorem hg_value (l : Launch) (hl : l.stackTraces = false) (D : va_G) {sh : s_S} {M : s_M} {sz o : Int} {s : rnT} {hd : Int} {ns : Int} {O : Int → Int} {Q : Int → Int} {Z : Int → Int} {nr : Int} {t : List Int} {WR : Int → Int} {YR : Int → List Int} {vR : List Int} {nc : Int} {m : Int} {WC : Int → Int} {L : Int → Int} (h : cwd sh M sz o s hd ns O Q Z nr t WR YR vR nc m WC L) {i : Int} (hi : -2147483648 ≤ i ∧ i < 2147483648) {q_ : Int} (hqo : sh q_ = some (.inr (.long, 1))) (hq0 : o + 246 < q_) (hqz : q_ < sz) : SpW l D y_Law_value method_12_code 4 (some .int) [(0, 9, 12, 29)] 12 1 6 [vr o, vi i, vr q_] sh M sz (fun v' sh' M' sz' => ∃ kd vv hd' : Int, kd = kyk s.1.2.1 i ∧ vv = vlv (s.1.2.2 (s.1.2.1 - 1 - i)) ∧ (0 ≤ kd ∧ kd ≤ 2) ∧ v' = some (vi kd) ∧ (∀ z, z < sz → sh' z = sh z) ∧ sz ≤ sz' ∧ (kd = 0 → M' q_ 0 = wi32 vv) ∧ cwd sh' M' sz' o s hd' ns O Q Z nr t WR YR vR nc m WC L ∧ fr (fun z => (o ≤ z ∧ z ≤ o + 246) ∨ z = q_ ∨ sz ≤ z) M M') := by
  have q0 := h.1.1
  have q9 : 0 ≤ o := h.sz.1
  refine SpW.ofGo (own := "CiteForgeLaw") (nm := "value") (by decide) rfl rfl (Nat.le_of_ble_eq_true rfl) (lv := [(0, vr o), (1, vi i), (2, vr q_)]) rfl ?_
  intro g X YY
  refine go_aload_n X d_Law_value_0 rfl rfl ?_
  refine go_iconst (v := 0) X d_Law_value_1 ?_
  refine go_aload_n X d_Law_value_2 rfl rfl ?_
  refine go_iload_n X d_Law_value_3 rfl rfl ?_
  refine go_callVx (r := [vi 0, vr q_]) X YY k_Law_53.1.1 k_Law_53.1.2.1 k_Law_53.1.2.2.1 w1190 k_Law_53.2.1 k_Law_53.2.2.1 (g_value l hl D h hi) q0 cls10 rfl rfl (by omega) (by decide) (by omega) (by omega) (Nat.le_of_ble_eq_true rfl) d_Law_value_4 (fun v' sh' M1 sz' hp => ?_) (fun E sh' M1 sz' hx => ?_)
  · skip
    obtain ⟨hcd, e1, e2, e3, p0, f1⟩ := hp
    subst e1
    rw [e2, e3]
    show Go g 1 6 sh M1 sz 7 [(0, vr o), (1, vi i), (2, vr q_)] [vi (vlv (s.1.2.2 (s.1.2.1 - 1 - i))), vi 0, vr q_]
    refine go_top (v' := vi (wi32 (vlv (s.1.2.2 (s.1.2.1 - 1 - i))))) X (wi32_vi _) ?_
    have hv0 := wi32_rng (vlv (s.1.2.2 (s.1.2.1 - 1 - i)))
    refine go_i2l X d_Law_value_7 (by omega) ?_
    refine go_last X hqo (by omega) (by omega) d_Law_value_8 ?_
    generalize hM2 : m_s M1 q_ 0 (wi32 (vlv (s.1.2.2 (s.1.2.1 - 1 - i)))) = M1
    have e3 : M1 q_ 0 = wi32 (vlv (s.1.2.2 (s.1.2.1 - 1 - i))) := by rw [← hM2, m_s_s]
    refine go_goto (tgt := 15) X d_Law_value_9 rfl ?_
    refine go_iconst (v := 0) X d_Law_value_15 ?_
    refine go_iret X d_Law_value_16 rfl ?_ (by omega) (by omega) ?_
    · rfl
    refine ⟨0, _, hd, hcd.symm, rfl, by decide, rfl, fun _ _ => rfl, Int.le_refl _, fun _ => e3, ?_, fun z hz => ?_⟩
    · skip
      exact p0.off (fun z a b => by rw [← hM2]; exact m_s_a (by omega)) (fun z a b c => by
        rw [← hM2]
        exact m_s_a (fun e => lng_no hqo (e ▸ c)))
    · have hz1 : ¬ ((o ≤ z ∧ z ≤ o + 246) ∨ z = q_ ∨ sz ≤ z) := hz
      rw [← hM2, m_s_a (by omega)]
      exact f1 z (by show ¬ (o ≤ z ∧ z ≤ o + 246); omega)
  · skip
    obtain ⟨e1, e2, e3, hor⟩ := hx
    rw [e1, e2, e3]
    obtain ⟨rfl, hcd⟩ := hor
    refine ⟨12, x_f_hit ⟨by decide, by decide, by decide⟩ w_cl_Law_29 x_c_IOOB, fun a_ => ?_⟩
    have hn0 : ¬ kyk s.1.2.1 i = 0 := by rw [hcd]; decide
    show Go g 1 6 sh M (sz + 1) 12 [(0, vr o), (1, vi i), (2, vr q_)] [vr a_]
    refine go_astore_n (lv' := [(3, vr a_), (0, vr o), (1, vi i), (2, vr q_)]) X d_Law_value_12 rfl (by decide) rfl ?_
    refine go_iconst (v := 1) X d_Law_value_13 ?_
    refine go_iret X d_Law_value_14 rfl ?_ (by omega) (by omega) ?_
    · rfl
    refine ⟨1, _, hd, hcd.symm, rfl, by decide, rfl, fun _ _ => rfl, by omega, fun q => absurd q (by decide), ?_, fun z _ => rfl⟩
    exact h.mv (by omega) (fun z a b => ⟨rfl, rfl⟩)
set_option maxHeartbeats 4000000 in
set_option maxRecDepth 100000 in
theorem hg_letter (l : Launch) (hl : l.stackTraces = false) (D : va_G) {sh : s_S} {M : s_M} {sz o : Int} {s : rnT} {hd : Int} {ns : Int} {O : Int → Int} {Q : Int → Int} {Z : Int → Int} {nr : Int} {t : List Int} {WR : Int → Int} {YR : Int → List Int} {vR : List Int} {nc : Int} {m : Int} {WC : Int → Int} {L : Int → Int} (h : cwd sh M sz o s hd ns O Q Z nr t WR YR vR nc m WC L) {i j : Int} (hi : -2147483648 ≤ i ∧ i < 2147483648) (hj : -2147483648 ≤ j ∧ j < 2147483648) {q_ : Int} (hqo : sh q_ = some (.inr (.long, 1))) (hq0 : o + 246 < q_) (hqz : q_ < sz) : SpW l D y_Law_letter method_13_code 5 (some .int) [(0, 10, 13, 29)] 12 1 6 [vr o, vi i, vi j, vr q_] sh M sz (fun v' sh' M' sz' => ∃ kd vv hd' : Int, kd = lek s.1.2.1 s.1.2.2 i j ∧ vv = tg (s.1.2.2 (s.1.2.1 - 1 - i)).2.2 j ∧ (0 ≤ kd ∧ kd ≤ 2) ∧ v' = some (vi kd) ∧ (∀ z, z < sz → sh' z = sh z) ∧ sz ≤ sz' ∧ (kd = 0 → M' q_ 0 = wi32 vv) ∧ cwd sh' M' sz' o s hd' ns O Q Z nr t WR YR vR nc m WC L ∧ fr (fun z => (o ≤ z ∧ z ≤ o + 246) ∨ z = q_ ∨ sz ≤ z) M M') := by
  have q0 := h.1.1
  have q9 : 0 ≤ o := h.sz.1
  refine SpW.ofGo (own := "CiteForgeLaw") (nm := "letter") (by decide) rfl rfl (Nat.le_of_ble_eq_true rfl) (lv := [(0, vr o), (1, vi i), (2, vi j), (3, vr q_)]) rfl ?_
  intro g X YY
  refine go_aload_n X d_Law_letter_0 rfl rfl ?_
  refine go_iconst (v := 0) X d_Law_letter_1 ?_
  refine go_aload_n X d_Law_letter_2 rfl rfl ?_
  refine go_iload_n X d_Law_letter_3 rfl rfl ?_
  refine go_iload_n X d_Law_letter_4 rfl rfl ?_
  refine go_callVx (r := [vi 0, vr q_]) X YY k_Law_56.1.1 k_Law_56.1.2.1 k_Law_56.1.2.2.1 w1198 k_Law_56.2.1 k_Law_56.2.2.1 (g_letter l hl D h hi hj) q0 cls10 rfl rfl (by omega) (by decide) (by omega) (by omega) (Nat.le_of_ble_eq_true rfl) d_Law_letter_5 (fun v' sh' M1 sz' hp => ?_) (fun E sh' M1 sz' hx => ?_)
  · skip
    obtain ⟨hcd, e1, e2, e3, p0, f1⟩ := hp
    subst e1
    rw [e2, e3]
    show Go g 1 6 sh M1 sz 8 [(0, vr o), (1, vi i), (2, vi j), (3, vr q_)] [vi (tg (s.1.2.2 (s.1.2.1 - 1 - i)).2.2 j), vi 0, vr q_]
    refine go_top (v' := vi (wi32 (tg (s.1.2.2 (s.1.2.1 - 1 - i)).2.2 j))) X (wi32_vi _) ?_
    have hv0 := wi32_rng (tg (s.1.2.2 (s.1.2.1 - 1 - i)).2.2 j)
    refine go_i2l X d_Law_letter_8 (by omega) ?_
    refine go_last X hqo (by omega) (by omega) d_Law_letter_9 ?_
    generalize hM2 : m_s M1 q_ 0 (wi32 (tg (s.1.2.2 (s.1.2.1 - 1 - i)).2.2 j)) = M1
    have e3 : M1 q_ 0 = wi32 (tg (s.1.2.2 (s.1.2.1 - 1 - i)).2.2 j) := by rw [← hM2, m_s_s]
    refine go_goto (tgt := 17) X d_Law_letter_10 rfl ?_
    refine go_iconst (v := 0) X d_Law_letter_17 ?_
    refine go_iret X d_Law_letter_18 rfl ?_ (by omega) (by omega) ?_
    · rfl
    refine ⟨0, _, hd, hcd.symm, rfl, by decide, rfl, fun _ _ => rfl, Int.le_refl _, fun _ => e3, ?_, fun z hz => ?_⟩
    · skip
      exact p0.off (fun z a b => by rw [← hM2]; exact m_s_a (by omega)) (fun z a b c => by
        rw [← hM2]
        exact m_s_a (fun e => lng_no hqo (e ▸ c)))
    · have hz1 : ¬ ((o ≤ z ∧ z ≤ o + 246) ∨ z = q_ ∨ sz ≤ z) := hz
      rw [← hM2, m_s_a (by omega)]
      exact f1 z (by show ¬ (o ≤ z ∧ z ≤ o + 246); omega)
  · skip
    obtain ⟨e1, e2, e3, hor⟩ := hx
    rw [e1, e2, e3]
    obtain ⟨rfl, hcd⟩ := hor
    refine ⟨13, x_f_hit ⟨by decide, by decide, by decide⟩ w_cl_Law_29 x_c_IOOB, fun a_ => ?_⟩
    have hn0 : ¬ lek s.1.2.1 s.1.2.2 i j = 0 := by rw [hcd]; decide
    show Go g 1 6 sh M (sz + 1) 13 [(0, vr o), (1, vi i), (2, vi j), (3, vr q_)] [vr a_]
    refine go_astore (lv' := [(4, vr a_), (0, vr o), (1, vi i), (2, vi j), (3, vr q_)]) X d_Law_letter_13 (by decide) rfl ?_
    refine go_iconst (v := 1) X d_Law_letter_15 ?_
    refine go_iret X d_Law_letter_16 rfl ?_ (by omega) (by omega) ?_
    · rfl
    refine ⟨1, _, hd, hcd.symm, rfl, by decide, rfl, fun _ _ => rfl, by omega, fun q => absurd q (by decide), ?_, fun z _ => rfl⟩
    exact h.mv (by omega) (fun z a b => ⟨rfl, rfl⟩)
set_option maxHeartbeats 4000000 in
set_option maxRecDepth 100000 in
theorem hg_line (l : Launch) (hl : l.stackTraces = false) (D : va_G) {sh : s_S} {M : s_M} {sz o : Int} {s : rnT} {hd : Int} {ns : Int} {O : Int → Int} {Q : Int → Int} {Z : Int → Int} {nr : Int} {t : List Int} {WR : Int → Int} {YR : Int → List Int} {vR : List Int} {nc : Int} {m : Int} {WC : Int → Int} {L : Int → Int} (h : cwd sh M sz o s hd ns O Q Z nr t WR YR vR nc m WC L) {i j : Int} (hi : -2147483648 ≤ i ∧ i < 2147483648) (hj : -2147483648 ≤ j ∧ j < 2147483648) (hnp : s.2.2.1.1 < 2147483648) {q_ : Int} (hqo : sh q_ = some (.inr (.long, 1))) (hq0 : o + 246 < q_) (hqz : q_ < sz) : SpW l D y_Law_line method_14_code 5 (some .int) [(0, 10, 13, 35), (0, 10, 17, 29)] 12 1 6 [vr o, vi i, vi j, vr q_] sh M sz (fun v' sh' M' sz' => ∃ kd vv hd' : Int, kd = lik s.2.2.1.1 s.2.2.1.2.2 i j ∧ vv = tg (s.2.2.1.2.2 i) j ∧ (0 ≤ kd ∧ kd ≤ 2) ∧ v' = some (vi kd) ∧ (∀ z, z < sz → sh' z = sh z) ∧ sz ≤ sz' ∧ (kd = 0 → M' q_ 0 = wi32 vv) ∧ cwd sh' M' sz' o s hd' ns O Q Z nr t WR YR vR nc m WC L ∧ fr (fun z => (o ≤ z ∧ z ≤ o + 246) ∨ z = q_ ∨ sz ≤ z) M M') := by
  have q0 := h.1.1
  have q9 : 0 ≤ o := h.sz.1
  refine SpW.ofGo (own := "CiteForgeLaw") (nm := "line") (by decide) rfl rfl (Nat.le_of_ble_eq_true rfl) (lv := [(0, vr o), (1, vi i), (2, vi j), (3, vr q_)]) rfl ?_
  intro g X YY
  refine go_aload_n X d_Law_line_0 rfl rfl ?_
  refine go_iconst (v := 0) X d_Law_line_1 ?_
  refine go_aload_n X d_Law_line_2 rfl rfl ?_
  refine go_iload_n X d_Law_line_3 rfl rfl ?_
  refine go_iload_n X d_Law_line_4 rfl rfl ?_
  refine go_callVx (r := [vi 0, vr q_]) X YY k_Law_59.1.1 k_Law_59.1.2.1 k_Law_59.1.2.2.1 w1205 k_Law_59.2.1 k_Law_59.2.2.1 (g_line l hl D h hi hj hnp) q0 cls10 rfl rfl (by omega) (by decide) (by omega) (by omega) (Nat.le_of_ble_eq_true rfl) d_Law_line_5 (fun v' sh' M1 sz' hp => ?_) (fun E sh' M1 sz' hx => ?_)
  · skip
    obtain ⟨hcd, e1, e2, e3, p0, f1⟩ := hp
    subst e1
    rw [e2, e3]
    show Go g 1 6 sh M1 sz 8 [(0, vr o), (1, vi i), (2, vi j), (3, vr q_)] [vi (tg (s.2.2.1.2.2 i) j), vi 0, vr q_]
    refine go_top (v' := vi (wi32 (tg (s.2.2.1.2.2 i) j))) X (wi32_vi _) ?_
    have hv0 := wi32_rng (tg (s.2.2.1.2.2 i) j)
    refine go_i2l X d_Law_line_8 (by omega) ?_
    refine go_last X hqo (by omega) (by omega) d_Law_line_9 ?_
    generalize hM2 : m_s M1 q_ 0 (wi32 (tg (s.2.2.1.2.2 i) j)) = M1
    have e3 : M1 q_ 0 = wi32 (tg (s.2.2.1.2.2 i) j) := by rw [← hM2, m_s_s]
    refine go_goto (tgt := 21) X d_Law_line_10 rfl ?_
    refine go_iconst (v := 0) X d_Law_line_21 ?_
    refine go_iret X d_Law_line_22 rfl ?_ (by omega) (by omega) ?_
    · rfl
    refine ⟨0, _, hd, hcd.symm, rfl, by decide, rfl, fun _ _ => rfl, Int.le_refl _, fun _ => e3, ?_, fun z hz => ?_⟩
    · skip
      exact p0.off (fun z a b => by rw [← hM2]; exact m_s_a (by omega)) (fun z a b c => by
        rw [← hM2]
        exact m_s_a (fun e => lng_no hqo (e ▸ c)))
    · have hz1 : ¬ ((o ≤ z ∧ z ≤ o + 246) ∨ z = q_ ∨ sz ≤ z) := hz
      rw [← hM2, m_s_a (by omega)]
      exact f1 z (by show ¬ (o ≤ z ∧ z ≤ o + 246); omega)
  · skip
    obtain ⟨e1, e2, e3, hor⟩ := hx
    rw [e1, e2, e3]
    rcases hor with ⟨rfl, hcd⟩ | ⟨rfl, hcd⟩
    · skip
      refine ⟨13, x_f_hit ⟨by decide, by decide, by decide⟩ w_cl_Law_35 x_c_NSE, fun a_ => ?_⟩
      have hn0 : ¬ lik s.2.2.1.1 s.2.2.1.2.2 i j = 0 := by rw [hcd]; decide
      show Go g 1 6 sh M (sz + 1) 13 [(0, vr o), (1, vi i), (2, vi j), (3, vr q_)] [vr a_]
      refine go_astore (lv' := [(4, vr a_), (0, vr o), (1, vi i), (2, vi j), (3, vr q_)]) X d_Law_line_13 (by decide) rfl ?_
      refine go_iconst (v := 1) X d_Law_line_15 ?_
      refine go_iret X d_Law_line_16 rfl ?_ (by omega) (by omega) ?_
      · rfl
      refine ⟨1, _, hd, hcd.symm, rfl, by decide, rfl, fun _ _ => rfl, by omega, fun q => absurd q (by decide), ?_, fun z _ => rfl⟩
      exact h.mv (by omega) (fun z a b => ⟨rfl, rfl⟩)
    · skip
      refine ⟨17, x_f_skip ⟨by decide, by decide, by decide⟩ w_cl_Law_35 (by simp [ncAll]) (x_f_hit ⟨by decide, by decide, by decide⟩ w_cl_Law_29 x_c_IOOB), fun a_ => ?_⟩
      have hn0 : ¬ lik s.2.2.1.1 s.2.2.1.2.2 i j = 0 := by rw [hcd]; decide
      show Go g 1 6 sh M (sz + 1) 17 [(0, vr o), (1, vi i), (2, vi j), (3, vr q_)] [vr a_]
      refine go_astore (lv' := [(4, vr a_), (0, vr o), (1, vi i), (2, vi j), (3, vr q_)]) X d_Law_line_17 (by decide) rfl ?_
      refine go_iconst (v := 2) X d_Law_line_19 ?_
      refine go_iret X d_Law_line_20 rfl ?_ (by omega) (by omega) ?_
      · rfl
      refine ⟨2, _, hd, hcd.symm, rfl, by decide, rfl, fun _ _ => rfl, by omega, fun q => absurd q (by decide), ?_, fun z _ => rfl⟩
      exact h.mv (by omega) (fun z a b => ⟨rfl, rfl⟩)
set_option maxHeartbeats 4000000 in
set_option maxRecDepth 100000 in
theorem hg_count (l : Launch) (hl : l.stackTraces = false) (D : va_G) {sh : s_S} {M : s_M} {sz o : Int} {s : rnT} {hd : Int} {ns : Int} {O : Int → Int} {Q : Int → Int} {Z : Int → Int} {nr : Int} {t : List Int} {WR : Int → Int} {YR : Int → List Int} {vR : List Int} {nc : Int} {m : Int} {WC : Int → Int} {L : Int → Int} (h : cwd sh M sz o s hd ns O Q Z nr t WR YR vR nc m WC L) {i : Int} (hi : -2147483648 ≤ i ∧ i < 2147483648) (hnp : s.2.2.1.1 < 2147483648) {q_ : Int} (hqo : sh q_ = some (.inr (.long, 1))) (hq0 : o + 246 < q_) (hqz : q_ < sz) : SpW l D y_Law_count method_15_code 4 (some .int) [(0, 9, 12, 29)] 12 1 6 [vr o, vi i, vr q_] sh M sz (fun v' sh' M' sz' => ∃ kd vv hd' : Int, kd = cok i ∧ vv = cov i ns m s.2.2.1.1 (s.2.2.1.2.1.length : Int) nc ∧ (0 ≤ kd ∧ kd ≤ 2) ∧ v' = some (vi kd) ∧ (∀ z, z < sz → sh' z = sh z) ∧ sz ≤ sz' ∧ (kd = 0 → M' q_ 0 = wi32 vv) ∧ cwd sh' M' sz' o s hd' ns O Q Z nr t WR YR vR nc m WC L ∧ fr (fun z => (o ≤ z ∧ z ≤ o + 246) ∨ z = q_ ∨ sz ≤ z) M M') := by
  have q0 := h.1.1
  have q9 : 0 ≤ o := h.sz.1
  refine SpW.ofGo (own := "CiteForgeLaw") (nm := "count") (by decide) rfl rfl (Nat.le_of_ble_eq_true rfl) (lv := [(0, vr o), (1, vi i), (2, vr q_)]) rfl ?_
  intro g X YY
  refine go_aload_n X d_Law_count_0 rfl rfl ?_
  refine go_iconst (v := 0) X d_Law_count_1 ?_
  refine go_aload_n X d_Law_count_2 rfl rfl ?_
  refine go_iload_n X d_Law_count_3 rfl rfl ?_
  refine go_callVx (r := [vi 0, vr q_]) X YY k_Law_62.1.1 k_Law_62.1.2.1 k_Law_62.1.2.2.1 w1220 k_Law_62.2.1 k_Law_62.2.2.1 (g_count l hl D h hi hnp) q0 cls10 rfl rfl (by omega) (by decide) (by omega) (by omega) (Nat.le_of_ble_eq_true rfl) d_Law_count_4 (fun v' sh' M1 sz' hp => ?_) (fun E sh' M1 sz' hx => ?_)
  · skip
    obtain ⟨hcd, e1, e2, e3, p0, f1⟩ := hp
    subst e1
    rw [e2, e3]
    show Go g 1 6 sh M1 sz 7 [(0, vr o), (1, vi i), (2, vr q_)] [vi (cov i ns m s.2.2.1.1 (s.2.2.1.2.1.length : Int) nc), vi 0, vr q_]
    refine go_top (v' := vi (wi32 (cov i ns m s.2.2.1.1 (s.2.2.1.2.1.length : Int) nc))) X (wi32_vi _) ?_
    have hv0 := wi32_rng (cov i ns m s.2.2.1.1 (s.2.2.1.2.1.length : Int) nc)
    refine go_i2l X d_Law_count_7 (by omega) ?_
    refine go_last X hqo (by omega) (by omega) d_Law_count_8 ?_
    generalize hM2 : m_s M1 q_ 0 (wi32 (cov i ns m s.2.2.1.1 (s.2.2.1.2.1.length : Int) nc)) = M1
    have e3 : M1 q_ 0 = wi32 (cov i ns m s.2.2.1.1 (s.2.2.1.2.1.length : Int) nc) := by rw [← hM2, m_s_s]
    refine go_goto (tgt := 15) X d_Law_count_9 rfl ?_
    refine go_iconst (v := 0) X d_Law_count_15 ?_
    refine go_iret X d_Law_count_16 rfl ?_ (by omega) (by omega) ?_
    · rfl
    refine ⟨0, _, hd, hcd.symm, rfl, by decide, rfl, fun _ _ => rfl, Int.le_refl _, fun _ => e3, ?_, fun z hz => ?_⟩
    · skip
      exact p0.off (fun z a b => by rw [← hM2]; exact m_s_a (by omega)) (fun z a b c => by
        rw [← hM2]
        exact m_s_a (fun e => lng_no hqo (e ▸ c)))
    · have hz1 : ¬ ((o ≤ z ∧ z ≤ o + 246) ∨ z = q_ ∨ sz ≤ z) := hz
      rw [← hM2, m_s_a (by omega)]
      exact f1 z (by show ¬ (o ≤ z ∧ z ≤ o + 246); omega)
  · skip
    obtain ⟨e1, e2, e3, hor⟩ := hx
    rw [e1, e2, e3]
    obtain ⟨rfl, hcd⟩ := hor
    refine ⟨12, x_f_hit ⟨by decide, by decide, by decide⟩ w_cl_Law_29 x_c_IOOB, fun a_ => ?_⟩
    have hn0 : ¬ cok i = 0 := by rw [hcd]; decide
    show Go g 1 6 sh M (sz + 1) 12 [(0, vr o), (1, vi i), (2, vr q_)] [vr a_]
    refine go_astore_n (lv' := [(3, vr a_), (0, vr o), (1, vi i), (2, vr q_)]) X d_Law_count_12 rfl (by decide) rfl ?_
    refine go_iconst (v := 1) X d_Law_count_13 ?_
    refine go_iret X d_Law_count_14 rfl ?_ (by omega) (by omega) ?_
    · rfl
    refine ⟨1, _, hd, hcd.symm, rfl, by decide, rfl, fun _ _ => rfl, by omega, fun q => absurd q (by decide), ?_, fun z _ => rfl⟩
    exact h.mv (by omega) (fun z a b => ⟨rfl, rfl⟩)
set_option maxHeartbeats 4000000 in
set_option maxRecDepth 100000 in
theorem hg_warnings (l : Launch) (hl : l.stackTraces = false) (D : va_G) {sh : s_S} {M : s_M} {sz o : Int} {s : rnT} {hd : Int} {ns : Int} {O : Int → Int} {Q : Int → Int} {Z : Int → Int} {nr : Int} {t : List Int} {WR : Int → Int} {YR : Int → List Int} {vR : List Int} {nc : Int} {m : Int} {WC : Int → Int} {L : Int → Int} (h : cwd sh M sz o s hd ns O Q Z nr t WR YR vR nc m WC L) {i : Int} (hi : -2147483648 ≤ i ∧ i < 2147483648) {q_ : Int} (hqo : sh q_ = some (.inr (.long, 1))) (hq0 : o + 246 < q_) (hqz : q_ < sz) : SpW l D y_Law_warnings method_16_code 4 (some .int) [(0, 9, 12, 29)] 12 1 6 [vr o, vi i, vr q_] sh M sz (fun v' sh' M' sz' => ∃ kd vv hd' : Int, kd = wak i ∧ vv = wi32 (s.1.1 i) ∧ (0 ≤ kd ∧ kd ≤ 2) ∧ v' = some (vi kd) ∧ (∀ z, z < sz → sh' z = sh z) ∧ sz ≤ sz' ∧ (kd = 0 → M' q_ 0 = wi32 vv) ∧ cwd sh' M' sz' o s hd' ns O Q Z nr t WR YR vR nc m WC L ∧ fr (fun z => (o ≤ z ∧ z ≤ o + 246) ∨ z = q_ ∨ sz ≤ z) M M') := by
  have q0 := h.1.1
  have q9 : 0 ≤ o := h.sz.1
  refine SpW.ofGo (own := "CiteForgeLaw") (nm := "warnings") (by decide) rfl rfl (Nat.le_of_ble_eq_true rfl) (lv := [(0, vr o), (1, vi i), (2, vr q_)]) rfl ?_
  intro g X YY
  refine go_aload_n X d_Law_warnings_0 rfl rfl ?_
  refine go_iconst (v := 0) X d_Law_warnings_1 ?_
  refine go_aload_n X d_Law_warnings_2 rfl rfl ?_
  refine go_iload_n X d_Law_warnings_3 rfl rfl ?_
  refine go_callVx (r := [vi 0, vr q_]) X YY k_Law_65.1.1 k_Law_65.1.2.1 k_Law_65.1.2.2.1 w1239 k_Law_65.2.1 k_Law_65.2.2.1 (g_warnings l hl D h hi) q0 cls10 rfl rfl (by omega) (by decide) (by omega) (by omega) (Nat.le_of_ble_eq_true rfl) d_Law_warnings_4 (fun v' sh' M1 sz' hp => ?_) (fun E sh' M1 sz' hx => ?_)
  · skip
    obtain ⟨hcd, e1, e2, e3, p0, f1⟩ := hp
    subst e1
    rw [e2, e3]
    show Go g 1 6 sh M1 sz 7 [(0, vr o), (1, vi i), (2, vr q_)] [vi (wi32 (s.1.1 i)), vi 0, vr q_]
    refine go_top (v' := vi (wi32 (wi32 (s.1.1 i)))) X (wi32_vi _) ?_
    have hv0 := wi32_rng (wi32 (s.1.1 i))
    refine go_i2l X d_Law_warnings_7 (by omega) ?_
    refine go_last X hqo (by omega) (by omega) d_Law_warnings_8 ?_
    generalize hM2 : m_s M1 q_ 0 (wi32 (wi32 (s.1.1 i))) = M1
    have e3 : M1 q_ 0 = wi32 (wi32 (s.1.1 i)) := by rw [← hM2, m_s_s]
    refine go_goto (tgt := 15) X d_Law_warnings_9 rfl ?_
    refine go_iconst (v := 0) X d_Law_warnings_15 ?_
    refine go_iret X d_Law_warnings_16 rfl ?_ (by omega) (by omega) ?_
    · rfl
    refine ⟨0, _, hd, hcd.symm, rfl, by decide, rfl, fun _ _ => rfl, Int.le_refl _, fun _ => e3, ?_, fun z hz => ?_⟩
    · skip
      exact p0.off (fun z a b => by rw [← hM2]; exact m_s_a (by omega)) (fun z a b c => by
        rw [← hM2]
        exact m_s_a (fun e => lng_no hqo (e ▸ c)))
    · have hz1 : ¬ ((o ≤ z ∧ z ≤ o + 246) ∨ z = q_ ∨ sz ≤ z) := hz
      rw [← hM2, m_s_a (by omega)]
      exact f1 z (by show ¬ (o ≤ z ∧ z ≤ o + 246); omega)
  · skip
    obtain ⟨e1, e2, e3, hor⟩ := hx
    rw [e1, e2, e3]
    obtain ⟨rfl, hcd⟩ := hor
    refine ⟨12, x_f_hit ⟨by decide, by decide, by decide⟩ w_cl_Law_29 x_c_IOOB, fun a_ => ?_⟩
    have hn0 : ¬ wak i = 0 := by rw [hcd]; decide
    show Go g 1 6 sh M (sz + 1) 12 [(0, vr o), (1, vi i), (2, vr q_)] [vr a_]
    refine go_astore_n (lv' := [(3, vr a_), (0, vr o), (1, vi i), (2, vr q_)]) X d_Law_warnings_12 rfl (by decide) rfl ?_
    refine go_iconst (v := 1) X d_Law_warnings_13 ?_
    refine go_iret X d_Law_warnings_14 rfl ?_ (by omega) (by omega) ?_
    · rfl
    refine ⟨1, _, hd, hcd.symm, rfl, by decide, rfl, fun _ _ => rfl, by omega, fun q => absurd q (by decide), ?_, fun z _ => rfl⟩
    exact h.mv (by omega) (fun z a b => ⟨rfl, rfl⟩)
