theorem x_f_hit {own : String} {pc : Nat} {E : String} {q : Nat × Nat × Nat × Nat} {r : List (Nat × Nat × Nat × Nat)} (h : q.1 ≤ pc ∧ pc < q.2.1 ∧ q.2.2.2 ≠ 0) {N : String} (hl : Cond.classLink own q.2.2.2 N ∈ wAll) (hc : Cond.castable E N ∈ tAll) : x_f own pc E (q :: r) q.2.2.1 := ⟨h, N, hl, Or.inl ⟨hc, rfl⟩⟩
theorem x_f_skip {own : String} {pc hp : Nat} {E : String} {q : Nat × Nat × Nat × Nat} {r : List (Nat × Nat × Nat × Nat)} (h : q.1 ≤ pc ∧ pc < q.2.1 ∧ q.2.2.2 ≠ 0) {N : String} (hl : Cond.classLink own q.2.2.2 N ∈ wAll) (hc : (E, N) ∈ ncAll) (hr : x_f own pc E r hp) : x_f own pc E (q :: r) hp := ⟨h, N, hl, Or.inr ⟨hc, hr⟩⟩
theorem t_of {w : Cond} (h : decide (w ∈ tables_1) = true) (h2 : s_thr w = true) : w ∈ tAll := List.mem_filter.mpr ⟨of_decide_eq_true h, h2⟩
theorem x_c_IA : Cond.castable "java/lang/IllegalArgumentException" "java/lang/IllegalArgumentException" ∈ tAll := t_of (by decide +kernel) rfl
theorem x_c_IS : Cond.castable "java/lang/IllegalStateException" "java/lang/IllegalStateException" ∈ tAll := t_of (by decide +kernel) rfl
theorem x_c_IOOB : Cond.castable "java/lang/IndexOutOfBoundsException" "java/lang/IndexOutOfBoundsException" ∈ tAll := t_of (by decide +kernel) rfl
theorem x_c_UO : Cond.castable "java/lang/UnsupportedOperationException" "java/lang/UnsupportedOperationException" ∈ tAll := t_of (by decide +kernel) rfl
theorem x_c_NSE : Cond.castable "java/util/NoSuchElementException" "java/util/NoSuchElementException" ∈ tAll := t_of (by decide +kernel) rfl
theorem civl_rng (WC : Int → Int) (n x : Int) : civl WC n x = 0 ∨ civl WC n x = 1 := by
  unfold civl
  split
  · exact Or.inl rfl
  · exact Or.inr rfl
theorem cov_rng {i a b c d e : Int} (ha : -2147483648 ≤ a ∧ a < 2147483648) (hb : -2147483648 ≤ b ∧ b < 2147483648) (hc : -2147483648 ≤ c ∧ c < 2147483648) (hd : -2147483648 ≤ d ∧ d < 2147483648) (he : -2147483648 ≤ e ∧ e < 2147483648) : -2147483648 ≤ cov i a b c d e ∧ cov i a b c d e < 2147483648 := by
  unfold cov
  split
  · exact ha
  · split
    · exact hb
    · split
      · exact hc
      · split
        · exact hd
        · exact he
set_option maxHeartbeats 4000000 in
set_option maxRecDepth 100000 in
theorem h_write (l : Launch) (hl : l.stackTraces = false) (D : va_G) {sh : s_S} {M : s_M} {sz o : Int} (hc : cfx sh M o) {nr : Int} {t : List Int} {WR : Int → Int} {YR : Int → List Int} {vR : List Int} (hrd : rdv sh M (o + 157) (o + 2) (o + 1) nr t WR YR vR) {x n_ : Int} (hx : 0 ≤ x ∧ x < 18446744073709551616) (hn : -2147483648 ≤ n_ ∧ n_ < 2147483648) {q_ : Int} (hqo : sh q_ = some (.inr (.long, 1))) (hq0 : o + 246 < q_) : SpW l D y_Law_write method_3_code 6 (some .int) [(0, 11, 14, 13), (0, 11, 18, 15)] 10 1 6 [vr o, vl x, vi n_, vr q_] sh M sz (fun v' sh' M' sz' => ∃ kc vv : Int, kc = wrk t x n_ ∧ vv = (t.length : Int) + n_ ∧ (0 ≤ kc ∧ kc ≤ 2) ∧ v' = some (vi kc) ∧ sh' = sh ∧ (kc = 0 → M' q_ 0 = vv ∧ rL vv) ∧ (sz' = sz ∨ sz' = sz + 1) ∧ fr (fun z => (o + 1 ≤ z ∧ z ≤ o + 246) ∨ z = q_) M M') := by
  have q0 := hc.1
  have q9 : 0 ≤ o := hc.2.2.2.2.2.2.2.2
  refine SpW.ofGo (own := "CiteForgeLaw") (nm := "write") (by decide) rfl rfl (Nat.le_of_ble_eq_true rfl) (lv := [(0, vr o), (1, vl x), (3, vi n_), (4, vr q_)]) rfl ?_
  intro g X YY
  refine go_aload X d_Law_write_0 rfl ?_
  refine go_iconst (v := 0) X d_Law_write_2 ?_
  refine go_aload_n X d_Law_write_3 rfl rfl ?_
  refine go_lload_n X d_Law_write_4 rfl rfl ?_
  refine go_iload_n X d_Law_write_5 rfl rfl ?_
  refine go_callVx (r := [vi 0, vr q_]) X YY k_Law_7.1.1 k_Law_7.1.2.1 k_Law_7.1.2.2.1 w611 k_Law_7.2.1 k_Law_7.2.2.1 (f_write l hl D hc hrd hx hn) q0 cls10 rfl rfl (by omega) (by decide) (by omega) (by omega) (Nat.le_of_ble_eq_true rfl) d_Law_write_6 (fun v' sh' M1 sz' hp => ?_) (fun E sh' M1 sz' hx => ?_)
  · skip
    obtain ⟨hcd, e1, e2, e3, p0, f1⟩ := hp
    subst e1
    rw [e2, e3]
    show Go g 1 6 sh M1 sz 9 [(0, vr o), (1, vl x), (3, vi n_), (4, vr q_)] [vi ((t.length : Int) + n_), vi 0, vr q_]
    have hv0 := hrd.2.2.2.2.2.2.2.2.2.2.2.2.2.2.2.2.1.len
    have hv1 : 1 ≤ n_ ∧ n_ ≤ 8 := by
      unfold wrk at hcd
      split at hcd
      · rename_i hw
        exact ⟨hw.1, hw.2.1⟩
      · exact absurd hcd (by decide)
    refine go_i2l X d_Law_write_9 (by omega) ?_
    refine go_last X hqo (by omega) (by omega) d_Law_write_10 ?_
    generalize hM2 : m_s M1 q_ 0 ((t.length : Int) + n_) = M1
    have e3 : M1 q_ 0 = (t.length : Int) + n_ := by rw [← hM2, m_s_s]
    refine go_goto (tgt := 22) X d_Law_write_11 rfl ?_
    refine go_iconst (v := 0) X d_Law_write_22 ?_
    refine go_iret X d_Law_write_23 rfl ?_ (by omega) (by omega) ?_
    · rfl
    refine ⟨0, _, hcd.symm, rfl, by decide, rfl, rfl, fun _ => ⟨e3, by omega⟩, Or.inl rfl, fun z hz => ?_⟩
    have hz1 : ¬ ((o + 1 ≤ z ∧ z ≤ o + 246) ∨ z = q_) := hz
    rw [← hM2, m_s_a (by omega)]
    exact f1 z (by show ¬ (o + 1 ≤ z ∧ z ≤ o + 246); omega)
  · skip
    obtain ⟨e1, e2, e3, hor⟩ := hx
    rw [e1, e2, e3]
    rcases hor with ⟨rfl, hcd⟩ | ⟨rfl, hcd⟩
    · skip
      refine ⟨14, x_f_hit ⟨by decide, by decide, by decide⟩ w_cl_Law_13 x_c_IA, fun a_ => ?_⟩
      show Go g 1 6 sh M (sz + 1) 14 [(0, vr o), (1, vl x), (3, vi n_), (4, vr q_)] [vr a_]
      refine go_astore (lv' := [(5, vr a_), (0, vr o), (1, vl x), (3, vi n_), (4, vr q_)]) X d_Law_write_14 (by decide) rfl ?_
      refine go_iconst (v := 1) X d_Law_write_16 ?_
      refine go_iret X d_Law_write_17 rfl ?_ (by omega) (by omega) ?_
      · rfl
      exact ⟨1, _, hcd.symm, rfl, by decide, rfl, rfl, fun q => absurd q (by decide), Or.inr rfl, fun z _ => rfl⟩
    · skip
      refine ⟨18, x_f_skip ⟨by decide, by decide, by decide⟩ w_cl_Law_13 (by simp [ncAll]) (x_f_hit ⟨by decide, by decide, by decide⟩ w_cl_Law_15 x_c_IS), fun a_ => ?_⟩
      show Go g 1 6 sh M (sz + 1) 18 [(0, vr o), (1, vl x), (3, vi n_), (4, vr q_)] [vr a_]
      refine go_astore (lv' := [(5, vr a_), (0, vr o), (1, vl x), (3, vi n_), (4, vr q_)]) X d_Law_write_18 (by decide) rfl ?_
      refine go_iconst (v := 2) X d_Law_write_20 ?_
      refine go_iret X d_Law_write_21 rfl ?_ (by omega) (by omega) ?_
      · rfl
      exact ⟨2, _, hcd.symm, rfl, by decide, rfl, rfl, fun q => absurd q (by decide), Or.inr rfl, fun z _ => rfl⟩
set_option maxHeartbeats 4000000 in
set_option maxRecDepth 100000 in
theorem h_cite (l : Launch) (hl : l.stackTraces = false) (D : va_G) {sh : s_S} {M : s_M} {sz o : Int} (hc : cfx sh M o) {n m : Int} {WC L : Int → Int} (hci : civ sh M (o + 180) (o + 2) (o + 1) n m WC L) {x : Int} (hx : 0 ≤ x ∧ x < 18446744073709551616) {q_ : Int} (hqo : sh q_ = some (.inr (.long, 1))) (hq0 : o + 246 < q_) : SpW l D y_Law_cite method_4_code 5 (some .int) [(0, 16, 19, 13), (0, 16, 23, 15)] 10 1 6 [vr o, vl x, vr q_] sh M sz (fun v' sh' M' sz' => ∃ kc vv : Int, kc = cik WC n x ∧ vv = civl WC n x ∧ (0 ≤ kc ∧ kc ≤ 2) ∧ v' = some (vi kc) ∧ sh' = sh ∧ (kc = 0 → M' q_ 0 = vv ∧ rL vv) ∧ (sz' = sz ∨ sz' = sz + 1) ∧ fr (fun z => (o + 1 ≤ z ∧ z ≤ o + 246) ∨ z = q_) M M') := by
  have q0 := hc.1
  have q9 : 0 ≤ o := hc.2.2.2.2.2.2.2.2
  refine SpW.ofGo (own := "CiteForgeLaw") (nm := "cite") (by decide) rfl rfl (Nat.le_of_ble_eq_true rfl) (lv := [(0, vr o), (1, vl x), (3, vr q_)]) rfl ?_
  intro g X YY
  refine go_aload_n X d_Law_cite_0 rfl rfl ?_
  refine go_iconst (v := 0) X d_Law_cite_1 ?_
  refine go_aload_n X d_Law_cite_2 rfl rfl ?_
  refine go_lload_n X d_Law_cite_3 rfl rfl ?_
  refine go_callVx (r := [vi 0, vr q_]) X YY k_Law_17.1.1 k_Law_17.1.2.1 k_Law_17.1.2.2.1 w716 k_Law_17.2.1 k_Law_17.2.2.1 (f_cite l hl D hc hci hx) q0 cls10 rfl rfl (by omega) (by decide) (by omega) (by omega) (Nat.le_of_ble_eq_true rfl) d_Law_cite_4 (fun v' sh' M1 sz' hp => ?_) (fun E sh' M1 sz' hx => ?_)
  · skip
    obtain ⟨hcd, e1, e2, e3, p0, f1⟩ := hp
    subst e1
    rw [e2, e3]
    show Go g 1 6 sh M1 sz 7 [(0, vr o), (1, vl x), (3, vr q_)] [vi (civl WC n x), vi 0, vr q_]
    have hv0 := civl_rng WC n x
    refine go_if_eq (tgt := 14) X d_Law_cite_7 rfl (by omega) (fun hq1 => ?_) (fun hq1 => ?_)
    · skip
      refine go_lconst (x := 0) X d_Law_cite_14 (by decide) ?_
      refine go_last X hqo (by omega) (by omega) d_Law_cite_15 ?_
      generalize hM3 : m_s M1 q_ 0 0 = M2
      have e4 : M2 q_ 0 = 0 := by rw [← hM3, m_s_s]
      refine go_goto (tgt := 27) X d_Law_cite_16 rfl ?_
      refine go_iconst (v := 0) X d_Law_cite_27 ?_
      refine go_iret X d_Law_cite_28 rfl ?_ (by omega) (by omega) ?_
      · rfl
      refine ⟨0, _, hcd.symm, rfl, by decide, rfl, rfl, fun _ => ⟨e4.trans (by omega), by omega⟩, Or.inl rfl, fun z hz => ?_⟩
      have hz1 : ¬ ((o + 1 ≤ z ∧ z ≤ o + 246) ∨ z = q_) := hz
      rw [← hM3, m_s_a (by omega)]
      exact f1 z (by show ¬ (o + 1 ≤ z ∧ z ≤ o + 246); omega)
    · skip
      refine go_lconst (x := 1) X d_Law_cite_10 (by decide) ?_
      refine go_goto (tgt := 15) X d_Law_cite_11 rfl ?_
      refine go_last X hqo (by omega) (by omega) d_Law_cite_15 ?_
      generalize hM6 : m_s M1 q_ 0 1 = M5
      have e7 : M5 q_ 0 = 1 := by rw [← hM6, m_s_s]
      refine go_goto (tgt := 27) X d_Law_cite_16 rfl ?_
      refine go_iconst (v := 0) X d_Law_cite_27 ?_
      refine go_iret X d_Law_cite_28 rfl ?_ (by omega) (by omega) ?_
      · rfl
      refine ⟨0, _, hcd.symm, rfl, by decide, rfl, rfl, fun _ => ⟨e7.trans (by omega), by omega⟩, Or.inl rfl, fun z hz => ?_⟩
      have hz1 : ¬ ((o + 1 ≤ z ∧ z ≤ o + 246) ∨ z = q_) := hz
      rw [← hM6, m_s_a (by omega)]
      exact f1 z (by show ¬ (o + 1 ≤ z ∧ z ≤ o + 246); omega)
  · skip
    obtain ⟨e1, e2, e3, hor⟩ := hx
    rw [e1, e2, e3]
    rcases hor with ⟨rfl, hcd⟩ | ⟨rfl, hcd⟩
    · skip
      refine ⟨19, x_f_hit ⟨by decide, by decide, by decide⟩ w_cl_Law_13 x_c_IA, fun a_ => ?_⟩
      show Go g 1 6 sh M (sz + 1) 19 [(0, vr o), (1, vl x), (3, vr q_)] [vr a_]
      refine go_astore (lv' := [(4, vr a_), (0, vr o), (1, vl x), (3, vr q_)]) X d_Law_cite_19 (by decide) rfl ?_
      refine go_iconst (v := 1) X d_Law_cite_21 ?_
      refine go_iret X d_Law_cite_22 rfl ?_ (by omega) (by omega) ?_
      · rfl
      exact ⟨1, _, hcd.symm, rfl, by decide, rfl, rfl, fun q => absurd q (by decide), Or.inr rfl, fun z _ => rfl⟩
    · skip
      refine ⟨23, x_f_skip ⟨by decide, by decide, by decide⟩ w_cl_Law_13 (by simp [ncAll]) (x_f_hit ⟨by decide, by decide, by decide⟩ w_cl_Law_15 x_c_IS), fun a_ => ?_⟩
      show Go g 1 6 sh M (sz + 1) 23 [(0, vr o), (1, vl x), (3, vr q_)] [vr a_]
      refine go_astore (lv' := [(4, vr a_), (0, vr o), (1, vl x), (3, vr q_)]) X d_Law_cite_23 (by decide) rfl ?_
      refine go_iconst (v := 2) X d_Law_cite_25 ?_
      refine go_iret X d_Law_cite_26 rfl ?_ (by omega) (by omega) ?_
      · rfl
      exact ⟨2, _, hcd.symm, rfl, by decide, rfl, rfl, fun q => absurd q (by decide), Or.inr rfl, fun z _ => rfl⟩
set_option maxHeartbeats 4000000 in
set_option maxRecDepth 100000 in
theorem h_list (l : Launch) (hl : l.stackTraces = false) (D : va_G) {sh : s_S} {M : s_M} {sz o : Int} (hc : cfx sh M o) {ns : Int} {E : Int → sen} (hsh : shv sh M (o + 2) (o + 1) ns E) {n m : Int} {WC L : Int → Int} (hci : civ sh M (o + 180) (o + 2) (o + 1) n m WC L) {i : Int} (hi : -2147483648 ≤ i ∧ i < 2147483648) (hn0 : n = 0) (hns : ns = 0) {q_ : Int} (hqo : sh q_ = some (.inr (.long, 1))) (hq0 : o + 246 < q_) : SpW l D y_Law_list method_5_code 4 (some .int) [(0, 9, 12, 13)] 10 1 6 [vr o, vi i, vr q_] sh M sz (fun v' sh' M' sz' => ∃ kc vv : Int, kc = lsk i ∧ vv = (0 : Int) ∧ (0 ≤ kc ∧ kc ≤ 2) ∧ v' = some (vi kc) ∧ sh' = sh ∧ (kc = 0 → M' q_ 0 = vv ∧ rL vv) ∧ (sz' = sz ∨ sz' = sz + 1) ∧ fr (fun z => (o + 1 ≤ z ∧ z ≤ o + 246) ∨ z = q_) M M') := by
  have q0 := hc.1
  have q9 : 0 ≤ o := hc.2.2.2.2.2.2.2.2
  refine SpW.ofGo (own := "CiteForgeLaw") (nm := "list") (by decide) rfl rfl (Nat.le_of_ble_eq_true rfl) (lv := [(0, vr o), (1, vi i), (2, vr q_)]) rfl ?_
  intro g X YY
  refine go_aload_n X d_Law_list_0 rfl rfl ?_
  refine go_iconst (v := 0) X d_Law_list_1 ?_
  refine go_aload_n X d_Law_list_2 rfl rfl ?_
  refine go_iload_n X d_Law_list_3 rfl rfl ?_
  refine go_callVx (r := [vi 0, vr q_]) X YY k_Law_21.1.1 k_Law_21.1.2.1 k_Law_21.1.2.2.1 w743 k_Law_21.2.1 k_Law_21.2.2.1 (f_list0 l hl D hc hsh hci hi hn0 hns) q0 cls10 rfl rfl (by omega) (by decide) (by omega) (by omega) (Nat.le_of_ble_eq_true rfl) d_Law_list_4 (fun v' sh' M1 sz' hp => ?_) (fun E sh' M1 sz' hx => ?_)
  · skip
    obtain ⟨hcd, e1, e2, e3, p0, p1, f1⟩ := hp
    subst e1
    rw [e2, e3]
    show Go g 1 6 sh M1 sz 7 [(0, vr o), (1, vi i), (2, vr q_)] [vi (0 : Int), vi 0, vr q_]
    refine go_i2l X d_Law_list_7 (by omega) ?_
    refine go_last X hqo (by omega) (by omega) d_Law_list_8 ?_
    generalize hM2 : m_s M1 q_ 0 (0 : Int) = M1
    have e3 : M1 q_ 0 = (0 : Int) := by rw [← hM2, m_s_s]
    refine go_goto (tgt := 15) X d_Law_list_9 rfl ?_
    refine go_iconst (v := 0) X d_Law_list_15 ?_
    refine go_iret X d_Law_list_16 rfl ?_ (by omega) (by omega) ?_
    · rfl
    refine ⟨0, _, hcd.symm, rfl, by decide, rfl, rfl, fun _ => ⟨e3, by omega⟩, Or.inl rfl, fun z hz => ?_⟩
    have hz1 : ¬ ((o + 1 ≤ z ∧ z ≤ o + 246) ∨ z = q_) := hz
    rw [← hM2, m_s_a (by omega)]
    exact f1 z (by show ¬ (o + 1 ≤ z ∧ z ≤ o + 246); omega)
  · skip
    obtain ⟨e1, e2, e3, hor⟩ := hx
    rw [e1, e2, e3]
    obtain ⟨rfl, hcd⟩ := hor
    refine ⟨12, x_f_hit ⟨by decide, by decide, by decide⟩ w_cl_Law_13 x_c_IA, fun a_ => ?_⟩
    show Go g 1 6 sh M (sz + 1) 12 [(0, vr o), (1, vi i), (2, vr q_)] [vr a_]
    refine go_astore_n (lv' := [(3, vr a_), (0, vr o), (1, vi i), (2, vr q_)]) X d_Law_list_12 rfl (by decide) rfl ?_
    refine go_iconst (v := 1) X d_Law_list_13 ?_
    refine go_iret X d_Law_list_14 rfl ?_ (by omega) (by omega) ?_
    · rfl
    exact ⟨1, _, hcd.symm, rfl, by decide, rfl, rfl, fun q => absurd q (by decide), Or.inr rfl, fun z _ => rfl⟩
set_option maxHeartbeats 4000000 in
set_option maxRecDepth 100000 in
theorem h_key (l : Launch) (hl : l.stackTraces = false) (D : va_G) {sh : s_S} {M : s_M} {sz o : Int} (hc : cfx sh M o) {n m : Int} {WC L : Int → Int} (hci : civ sh M (o + 180) (o + 2) (o + 1) n m WC L) {i : Int} (hi : -2147483648 ≤ i ∧ i < 2147483648) (hm : m = 0) {q_ : Int} (hqo : sh q_ = some (.inr (.long, 1))) (hq0 : o + 246 < q_) : SpW l D y_Law_key method_6_code 4 (some .int) [(0, 8, 11, 29)] 10 1 6 [vr o, vi i, vr q_] sh M sz (fun v' sh' M' sz' => ∃ kc vv : Int, kc = (1 : Int) ∧ vv = (0 : Int) ∧ (0 ≤ kc ∧ kc ≤ 2) ∧ v' = some (vi kc) ∧ sh' = sh ∧ (kc = 0 → M' q_ 0 = vv ∧ rL vv) ∧ (sz' = sz ∨ sz' = sz + 1) ∧ fr (fun z => (o + 1 ≤ z ∧ z ≤ o + 246) ∨ z = q_) M M') := by
  have q0 := hc.1
  have q9 : 0 ≤ o := hc.2.2.2.2.2.2.2.2
  refine SpW.ofGo (own := "CiteForgeLaw") (nm := "key") (by decide) rfl rfl (Nat.le_of_ble_eq_true rfl) (lv := [(0, vr o), (1, vi i), (2, vr q_)]) rfl ?_
  intro g X YY
  refine go_aload_n X d_Law_key_0 rfl rfl ?_
  refine go_iconst (v := 0) X d_Law_key_1 ?_
  refine go_aload_n X d_Law_key_2 rfl rfl ?_
  refine go_iload_n X d_Law_key_3 rfl rfl ?_
  refine go_callVx (r := [vi 0, vr q_]) X YY k_Law_25.1.1 k_Law_25.1.2.1 k_Law_25.1.2.2.1 w775 k_Law_25.2.1 k_Law_25.2.2.1 (f_key0 l hl D hc hci hi hm) q0 cls10 rfl rfl (by omega) (by decide) (by omega) (by omega) (Nat.le_of_ble_eq_true rfl) d_Law_key_4 (fun v' sh' M1 sz' hp => ?_) (fun E sh' M1 sz' hx => ?_)
  · skip
    obtain ⟨hcd, e1, e2, e3, f1⟩ := hp
    subst e1
    rw [e2, e3]
    show Go g 1 6 sh M1 sz 7 [(0, vr o), (1, vi i), (2, vr q_)] [vl (0 : Int), vi 0, vr q_]
    refine go_last X hqo (by omega) (by omega) d_Law_key_7 ?_
    generalize hM2 : m_s M1 q_ 0 (0 : Int) = M1
    have e3 : M1 q_ 0 = (0 : Int) := by rw [← hM2, m_s_s]
    refine go_goto (tgt := 14) X d_Law_key_8 rfl ?_
    refine go_iconst (v := 0) X d_Law_key_14 ?_
    refine go_iret X d_Law_key_15 rfl ?_ (by omega) (by omega) ?_
    · rfl
    refine ⟨0, _, hcd.symm, rfl, by decide, rfl, rfl, fun _ => ⟨e3, by omega⟩, Or.inl rfl, fun z hz => ?_⟩
    have hz1 : ¬ ((o + 1 ≤ z ∧ z ≤ o + 246) ∨ z = q_) := hz
    rw [← hM2, m_s_a (by omega)]
    exact f1 z (by show ¬ (o + 1 ≤ z ∧ z ≤ o + 246); omega)
  · skip
    obtain ⟨e1, e2, e3, hor⟩ := hx
    rw [e1, e2, e3]
    obtain ⟨rfl, hcd⟩ := hor
    refine ⟨11, x_f_hit ⟨by decide, by decide, by decide⟩ w_cl_Law_29 x_c_IOOB, fun a_ => ?_⟩
    show Go g 1 6 sh M (sz + 1) 11 [(0, vr o), (1, vi i), (2, vr q_)] [vr a_]
    refine go_astore_n (lv' := [(3, vr a_), (0, vr o), (1, vi i), (2, vr q_)]) X d_Law_key_11 rfl (by decide) rfl ?_
    refine go_iconst (v := 1) X d_Law_key_12 ?_
    refine go_iret X d_Law_key_13 rfl ?_ (by omega) (by omega) ?_
    · rfl
    exact ⟨1, _, hcd.symm, rfl, by decide, rfl, rfl, fun q => absurd q (by decide), Or.inr rfl, fun z _ => rfl⟩
set_option maxHeartbeats 4000000 in
set_option maxRecDepth 100000 in
theorem h_field (l : Launch) (hl : l.stackTraces = false) (D : va_G) {sh : s_S} {M : s_M} {sz o : Int} (hc : cfx sh M o) {n m : Int} {WC L : Int → Int} (hci : civ sh M (o + 180) (o + 2) (o + 1) n m WC L) {i x j : Int} (hi : -2147483648 ≤ i ∧ i < 2147483648) (hm : m = 0) {q_ : Int} (hqo : sh q_ = some (.inr (.long, 1))) (hq0 : o + 246 < q_) : SpW l D y_Law_field method_7_code 7 (some .int) [(0, 13, 16, 29), (0, 13, 20, 35)] 10 1 6 [vr o, vi i, vl x, vi j, vr q_] sh M sz (fun v' sh' M' sz' => ∃ kc vv : Int, kc = (1 : Int) ∧ vv = (0 : Int) ∧ (0 ≤ kc ∧ kc ≤ 2) ∧ v' = some (vi kc) ∧ sh' = sh ∧ (kc = 0 → M' q_ 0 = vv ∧ rL vv) ∧ (sz' = sz ∨ sz' = sz + 1) ∧ fr (fun z => (o + 1 ≤ z ∧ z ≤ o + 246) ∨ z = q_) M M') := by
  have q0 := hc.1
  have q9 : 0 ≤ o := hc.2.2.2.2.2.2.2.2
  refine SpW.ofGo (own := "CiteForgeLaw") (nm := "field") (by decide) rfl rfl (Nat.le_of_ble_eq_true rfl) (lv := [(0, vr o), (1, vi i), (2, vl x), (4, vi j), (5, vr q_)]) rfl ?_
  intro g X YY
  refine go_aload X d_Law_field_0 rfl ?_
  refine go_iconst (v := 0) X d_Law_field_2 ?_
  refine go_aload_n X d_Law_field_3 rfl rfl ?_
  refine go_iload_n X d_Law_field_4 rfl rfl ?_
  refine go_lload_n X d_Law_field_5 rfl rfl ?_
  refine go_iload X d_Law_field_6 rfl ?_
  refine go_callVx (r := [vi 0, vr q_]) X YY k_Law_31.1.1 k_Law_31.1.2.1 k_Law_31.1.2.2.1 w806 k_Law_31.2.1 k_Law_31.2.2.1 (f_field0 l hl D hc hci hi hm) q0 cls10 rfl rfl (by omega) (by decide) (by omega) (by omega) (Nat.le_of_ble_eq_true rfl) d_Law_field_8 (fun v' sh' M1 sz' hp => ?_) (fun E sh' M1 sz' hx => ?_)
  · skip
    obtain ⟨hcd, e1, e2, e3, f1⟩ := hp
    subst e1
    rw [e2, e3]
    show Go g 1 6 sh M1 sz 11 [(0, vr o), (1, vi i), (2, vl x), (4, vi j), (5, vr q_)] [vi (0 : Int), vi 0, vr q_]
    refine go_i2l X d_Law_field_11 (by omega) ?_
    refine go_last X hqo (by omega) (by omega) d_Law_field_12 ?_
    generalize hM2 : m_s M1 q_ 0 (0 : Int) = M1
    have e3 : M1 q_ 0 = (0 : Int) := by rw [← hM2, m_s_s]
    refine go_goto (tgt := 24) X d_Law_field_13 rfl ?_
    refine go_iconst (v := 0) X d_Law_field_24 ?_
    refine go_iret X d_Law_field_25 rfl ?_ (by omega) (by omega) ?_
    · rfl
    refine ⟨0, _, hcd.symm, rfl, by decide, rfl, rfl, fun _ => ⟨e3, by omega⟩, Or.inl rfl, fun z hz => ?_⟩
    have hz1 : ¬ ((o + 1 ≤ z ∧ z ≤ o + 246) ∨ z = q_) := hz
    rw [← hM2, m_s_a (by omega)]
    exact f1 z (by show ¬ (o + 1 ≤ z ∧ z ≤ o + 246); omega)
  · skip
    obtain ⟨e1, e2, e3, hor⟩ := hx
    rw [e1, e2, e3]
    rcases hor with ⟨rfl, hcd⟩ | ⟨rfl, hcd⟩
    · skip
      refine ⟨16, x_f_hit ⟨by decide, by decide, by decide⟩ w_cl_Law_29 x_c_IOOB, fun a_ => ?_⟩
      show Go g 1 6 sh M (sz + 1) 16 [(0, vr o), (1, vi i), (2, vl x), (4, vi j), (5, vr q_)] [vr a_]
      refine go_astore (lv' := [(6, vr a_), (0, vr o), (1, vi i), (2, vl x), (4, vi j), (5, vr q_)]) X d_Law_field_16 (by decide) rfl ?_
      refine go_iconst (v := 1) X d_Law_field_18 ?_
      refine go_iret X d_Law_field_19 rfl ?_ (by omega) (by omega) ?_
      · rfl
      exact ⟨1, _, hcd.symm, rfl, by decide, rfl, rfl, fun q => absurd q (by decide), Or.inr rfl, fun z _ => rfl⟩
    · skip
      refine ⟨20, x_f_skip ⟨by decide, by decide, by decide⟩ w_cl_Law_29 (by simp [ncAll]) (x_f_hit ⟨by decide, by decide, by decide⟩ w_cl_Law_35 x_c_NSE), fun a_ => ?_⟩
      show Go g 1 6 sh M (sz + 1) 20 [(0, vr o), (1, vi i), (2, vl x), (4, vi j), (5, vr q_)] [vr a_]
      refine go_astore (lv' := [(6, vr a_), (0, vr o), (1, vi i), (2, vl x), (4, vi j), (5, vr q_)]) X d_Law_field_20 (by decide) rfl ?_
      refine go_iconst (v := 2) X d_Law_field_22 ?_
      refine go_iret X d_Law_field_23 rfl ?_ (by omega) (by omega) ?_
      · rfl
      exact ⟨2, _, hcd.symm, rfl, by decide, rfl, rfl, fun q => absurd q (by decide), Or.inr rfl, fun z _ => rfl⟩
set_option maxHeartbeats 4000000 in
set_option maxRecDepth 100000 in
theorem h_define (l : Launch) (hl : l.stackTraces = false) (D : va_G) {sh : s_S} {M : s_M} {sz o : Int} (hc : cfx sh M o) {O Q Z G : Int → Int} {t1 t2 t3 : List Int} {v1 v2 : sva} (hmc : mcx sh M (o + 225) (o + 2) (o + 180) (o + 183) (o + 221) (o + 1) O Q Z G t1 t2 t3 v1 v2) {f q v : Int} (hf : -2147483648 ≤ f ∧ f < 2147483648) (hq : -2147483648 ≤ q ∧ q < 2147483648) (hv : rL v) (hZ : zok Z) {q_ : Int} (hqo : sh q_ = some (.inr (.long, 1))) (hq0 : o + 246 < q_) : SpW l D y_Law_define method_8_code 7 (some .int) [(0, 12, 15, 13), (0, 12, 19, 15)] 10 1 6 [vr o, vi f, vi q, vl v, vr q_] sh M sz (fun v' sh' M' sz' => ∃ kc vv : Int, kc = dek Z f q ∧ vv = Z f + 1 ∧ (0 ≤ kc ∧ kc ≤ 2) ∧ v' = some (vi kc) ∧ sh' = sh ∧ (kc = 0 → M' q_ 0 = vv ∧ rL vv) ∧ (sz' = sz ∨ sz' = sz + 1) ∧ fr (fun z => (o + 1 ≤ z ∧ z ≤ o + 246) ∨ z = q_) M M') := by
  have q0 := hc.1
  have q9 : 0 ≤ o := hc.2.2.2.2.2.2.2.2
  refine SpW.ofGo (own := "CiteForgeLaw") (nm := "define") (by decide) rfl rfl (Nat.le_of_ble_eq_true rfl) (lv := [(0, vr o), (1, vi f), (2, vi q), (3, vl v), (5, vr q_)]) rfl ?_
  intro g X YY
  refine go_aload X d_Law_define_0 rfl ?_
  refine go_iconst (v := 0) X d_Law_define_2 ?_
  refine go_aload_n X d_Law_define_3 rfl rfl ?_
  refine go_iload_n X d_Law_define_4 rfl rfl ?_
  refine go_iload_n X d_Law_define_5 rfl rfl ?_
  refine go_lload_n X d_Law_define_6 rfl rfl ?_
  refine go_callVx (r := [vi 0, vr q_]) X YY k_Law_37.1.1 k_Law_37.1.2.1 k_Law_37.1.2.2.1 w839 k_Law_37.2.1 k_Law_37.2.2.1 (f_define l hl D hc hmc hf hq hv hZ) q0 cls10 rfl rfl (by omega) (by decide) (by omega) (by omega) (Nat.le_of_ble_eq_true rfl) d_Law_define_7 (fun v' sh' M1 sz' hp => ?_) (fun E sh' M1 sz' hx => ?_)
  · skip
    obtain ⟨hcd, e1, e2, e3, p0, f1⟩ := hp
    subst e1
    rw [e2, e3]
    show Go g 1 6 sh M1 sz 10 [(0, vr o), (1, vi f), (2, vi q), (3, vl v), (5, vr q_)] [vi (Z f + 1), vi 0, vr q_]
    have hv0 : -2147483648 ≤ Z f + 1 ∧ Z f + 1 < 2147483648 := by unfold dek at hcd; split at hcd <;> first | omega | (rename_i hc9; have := hZ f hc9.1.1 hc9.1.2; omega)
    refine go_i2l X d_Law_define_10 (by omega) ?_
    refine go_last X hqo (by omega) (by omega) d_Law_define_11 ?_
    generalize hM2 : m_s M1 q_ 0 (Z f + 1) = M1
    have e3 : M1 q_ 0 = Z f + 1 := by rw [← hM2, m_s_s]
    refine go_goto (tgt := 23) X d_Law_define_12 rfl ?_
    refine go_iconst (v := 0) X d_Law_define_23 ?_
    refine go_iret X d_Law_define_24 rfl ?_ (by omega) (by omega) ?_
    · rfl
    refine ⟨0, _, hcd.symm, rfl, by decide, rfl, rfl, fun _ => ⟨e3, by omega⟩, Or.inl rfl, fun z hz => ?_⟩
    have hz1 : ¬ ((o + 1 ≤ z ∧ z ≤ o + 246) ∨ z = q_) := hz
    rw [← hM2, m_s_a (by omega)]
    exact f1 z (by show ¬ (o + 1 ≤ z ∧ z ≤ o + 246); omega)
  · skip
    obtain ⟨e1, e2, e3, hor⟩ := hx
    rw [e1, e2, e3]
    rcases hor with ⟨rfl, hcd⟩ | ⟨rfl, hcd⟩
    · skip
      refine ⟨15, x_f_hit ⟨by decide, by decide, by decide⟩ w_cl_Law_13 x_c_IA, fun a_ => ?_⟩
      show Go g 1 6 sh M (sz + 1) 15 [(0, vr o), (1, vi f), (2, vi q), (3, vl v), (5, vr q_)] [vr a_]
      refine go_astore (lv' := [(6, vr a_), (0, vr o), (1, vi f), (2, vi q), (3, vl v), (5, vr q_)]) X d_Law_define_15 (by decide) rfl ?_
      refine go_iconst (v := 1) X d_Law_define_17 ?_
      refine go_iret X d_Law_define_18 rfl ?_ (by omega) (by omega) ?_
      · rfl
      exact ⟨1, _, hcd.symm, rfl, by decide, rfl, rfl, fun q => absurd q (by decide), Or.inr rfl, fun z _ => rfl⟩
    · skip
      refine ⟨19, x_f_skip ⟨by decide, by decide, by decide⟩ w_cl_Law_13 (by simp [ncAll]) (x_f_hit ⟨by decide, by decide, by decide⟩ w_cl_Law_15 x_c_IS), fun a_ => ?_⟩
      show Go g 1 6 sh M (sz + 1) 19 [(0, vr o), (1, vi f), (2, vi q), (3, vl v), (5, vr q_)] [vr a_]
      refine go_astore (lv' := [(6, vr a_), (0, vr o), (1, vi f), (2, vi q), (3, vl v), (5, vr q_)]) X d_Law_define_19 (by decide) rfl ?_
      refine go_iconst (v := 2) X d_Law_define_21 ?_
      refine go_iret X d_Law_define_22 rfl ?_ (by omega) (by omega) ?_
      · rfl
      exact ⟨2, _, hcd.symm, rfl, by decide, rfl, rfl, fun q => absurd q (by decide), Or.inr rfl, fun z _ => rfl⟩
set_option maxHeartbeats 4000000 in
set_option maxRecDepth 100000 in
theorem h_clear (l : Launch) (hl : l.stackTraces = false) (D : va_G) {sh : s_S} {M : s_M} {sz o : Int} (hc : cfx sh M o) {O Q Z G : Int → Int} {t1 t2 t3 : List Int} {v1 v2 : sva} (hmc : mcx sh M (o + 225) (o + 2) (o + 180) (o + 183) (o + 221) (o + 1) O Q Z G t1 t2 t3 v1 v2) {f : Int} (hf : -2147483648 ≤ f ∧ f < 2147483648) (hZ : zok Z) {q_ : Int} (hqo : sh q_ = some (.inr (.long, 1))) (hq0 : o + 246 < q_) : SpW l D y_Law_clear method_9_code 4 (some .int) [(0, 9, 12, 13)] 10 1 6 [vr o, vi f, vr q_] sh M sz (fun v' sh' M' sz' => ∃ kc vv : Int, kc = clk f ∧ vv = Z f ∧ (0 ≤ kc ∧ kc ≤ 2) ∧ v' = some (vi kc) ∧ sh' = sh ∧ (kc = 0 → M' q_ 0 = vv ∧ rL vv) ∧ (sz' = sz ∨ sz' = sz + 1) ∧ fr (fun z => (o + 1 ≤ z ∧ z ≤ o + 246) ∨ z = q_) M M') := by
  have q0 := hc.1
  have q9 : 0 ≤ o := hc.2.2.2.2.2.2.2.2
  refine SpW.ofGo (own := "CiteForgeLaw") (nm := "clear") (by decide) rfl rfl (Nat.le_of_ble_eq_true rfl) (lv := [(0, vr o), (1, vi f), (2, vr q_)]) rfl ?_
  intro g X YY
  refine go_aload_n X d_Law_clear_0 rfl rfl ?_
  refine go_iconst (v := 0) X d_Law_clear_1 ?_
  refine go_aload_n X d_Law_clear_2 rfl rfl ?_
  refine go_iload_n X d_Law_clear_3 rfl rfl ?_
  refine go_callVx (r := [vi 0, vr q_]) X YY k_Law_41.1.1 k_Law_41.1.2.1 k_Law_41.1.2.2.1 w863 k_Law_41.2.1 k_Law_41.2.2.1 (f_clear l hl D hc hmc hf hZ) q0 cls10 rfl rfl (by omega) (by decide) (by omega) (by omega) (Nat.le_of_ble_eq_true rfl) d_Law_clear_4 (fun v' sh' M1 sz' hp => ?_) (fun E sh' M1 sz' hx => ?_)
  · skip
    obtain ⟨hcd, e1, e2, e3, p0, f1⟩ := hp
    subst e1
    rw [e2, e3]
    show Go g 1 6 sh M1 sz 7 [(0, vr o), (1, vi f), (2, vr q_)] [vi (Z f), vi 0, vr q_]
    have hv0 : -2147483648 ≤ Z f ∧ Z f < 2147483648 := by unfold clk at hcd; split at hcd <;> first | omega | (rename_i hc9; have := hZ f hc9.1 hc9.2; omega)
    refine go_i2l X d_Law_clear_7 (by omega) ?_
    refine go_last X hqo (by omega) (by omega) d_Law_clear_8 ?_
    generalize hM2 : m_s M1 q_ 0 (Z f) = M1
    have e3 : M1 q_ 0 = Z f := by rw [← hM2, m_s_s]
    refine go_goto (tgt := 15) X d_Law_clear_9 rfl ?_
    refine go_iconst (v := 0) X d_Law_clear_15 ?_
    refine go_iret X d_Law_clear_16 rfl ?_ (by omega) (by omega) ?_
    · rfl
    refine ⟨0, _, hcd.symm, rfl, by decide, rfl, rfl, fun _ => ⟨e3, by omega⟩, Or.inl rfl, fun z hz => ?_⟩
    have hz1 : ¬ ((o + 1 ≤ z ∧ z ≤ o + 246) ∨ z = q_) := hz
    rw [← hM2, m_s_a (by omega)]
    exact f1 z (by show ¬ (o + 1 ≤ z ∧ z ≤ o + 246); omega)
  · skip
    obtain ⟨e1, e2, e3, hor⟩ := hx
    rw [e1, e2, e3]
    obtain ⟨rfl, hcd⟩ := hor
    refine ⟨12, x_f_hit ⟨by decide, by decide, by decide⟩ w_cl_Law_13 x_c_IA, fun a_ => ?_⟩
    show Go g 1 6 sh M (sz + 1) 12 [(0, vr o), (1, vi f), (2, vr q_)] [vr a_]
    refine go_astore_n (lv' := [(3, vr a_), (0, vr o), (1, vi f), (2, vr q_)]) X d_Law_clear_12 rfl (by decide) rfl ?_
    refine go_iconst (v := 1) X d_Law_clear_13 ?_
    refine go_iret X d_Law_clear_14 rfl ?_ (by omega) (by omega) ?_
    · rfl
    exact ⟨1, _, hcd.symm, rfl, by decide, rfl, rfl, fun q => absurd q (by decide), Or.inr rfl, fun z _ => rfl⟩
set_option maxHeartbeats 4000000 in
set_option maxRecDepth 100000 in
theorem h_run (l : Launch) (hl : l.stackTraces = false) (D : va_G) {sh : s_S} {M : s_M} {sz o : Int} (hc : cfx sh M o) {n m : Int} {WC L : Int → Int} (hci : civ sh M (o + 180) (o + 2) (o + 1) n m WC L) {O Q Z G : Int → Int} {t1 t2 t3 : List Int} {v1 v2 : sva} (hmc : mcx sh M (o + 225) (o + 2) (o + 180) (o + 183) (o + 221) (o + 1) O Q Z G t1 t2 t3 v1 v2) {f y : Int} (hf : -2147483648 ≤ f ∧ f < 2147483648) (hy : -2147483648 ≤ y ∧ y < 2147483648) (hm : m = 0) (hZ0 : ∀ f, Z f = 0) {q_ : Int} (hqo : sh q_ = some (.inr (.long, 1))) (hq0 : o + 246 < q_) : SpW l D y_Law_run method_10_code 5 (some .int) [(0, 10, 13, 13), (0, 10, 17, 48)] 10 1 6 [vr o, vi f, vi y, vr q_] sh M sz (fun v' sh' M' sz' => ∃ kc vv : Int, kc = rnk f y ∧ vv = (0 : Int) ∧ (0 ≤ kc ∧ kc ≤ 2) ∧ v' = some (vi kc) ∧ sh' = sh ∧ (kc = 0 → M' q_ 0 = vv ∧ rL vv) ∧ (sz' = sz ∨ sz' = sz + 1) ∧ fr (fun z => (o + 1 ≤ z ∧ z ≤ o + 246) ∨ z = q_) M M') := by
  have q0 := hc.1
  have q9 : 0 ≤ o := hc.2.2.2.2.2.2.2.2
  refine SpW.ofGo (own := "CiteForgeLaw") (nm := "run") (by decide) rfl rfl (Nat.le_of_ble_eq_true rfl) (lv := [(0, vr o), (1, vi f), (2, vi y), (3, vr q_)]) rfl ?_
  intro g X YY
  refine go_aload_n X d_Law_run_0 rfl rfl ?_
  refine go_iconst (v := 0) X d_Law_run_1 ?_
  refine go_aload_n X d_Law_run_2 rfl rfl ?_
  refine go_iload_n X d_Law_run_3 rfl rfl ?_
  refine go_iload_n X d_Law_run_4 rfl rfl ?_
  refine go_callVx (r := [vi 0, vr q_]) X YY k_Law_44.1.1 k_Law_44.1.2.1 k_Law_44.1.2.2.1 w875 k_Law_44.2.1 k_Law_44.2.2.1 (f_run0 l hl D hc hci hmc hf hy hm hZ0) q0 cls10 rfl rfl (by omega) (by decide) (by omega) (by omega) (Nat.le_of_ble_eq_true rfl) d_Law_run_5 (fun v' sh' M1 sz' hp => ?_) (fun E sh' M1 sz' hx => ?_)
  · skip
    obtain ⟨hcd, e1, e2, e3, p0, f1⟩ := hp
    subst e1
    rw [e2, e3]
    show Go g 1 6 sh M1 sz 8 [(0, vr o), (1, vi f), (2, vi y), (3, vr q_)] [vi (0 : Int), vi 0, vr q_]
    refine go_i2l X d_Law_run_8 (by omega) ?_
    refine go_last X hqo (by omega) (by omega) d_Law_run_9 ?_
    generalize hM2 : m_s M1 q_ 0 (0 : Int) = M1
    have e3 : M1 q_ 0 = (0 : Int) := by rw [← hM2, m_s_s]
    refine go_goto (tgt := 21) X d_Law_run_10 rfl ?_
    refine go_iconst (v := 0) X d_Law_run_21 ?_
    refine go_iret X d_Law_run_22 rfl ?_ (by omega) (by omega) ?_
    · rfl
    refine ⟨0, _, hcd.symm, rfl, by decide, rfl, rfl, fun _ => ⟨e3, by omega⟩, Or.inl rfl, fun z hz => ?_⟩
    have hz1 : ¬ ((o + 1 ≤ z ∧ z ≤ o + 246) ∨ z = q_) := hz
    rw [← hM2, m_s_a (by omega)]
    exact f1 z (by show ¬ (o + 1 ≤ z ∧ z ≤ o + 246); omega)
  · skip
    obtain ⟨e1, e2, e3, hor⟩ := hx
    rw [e1, e2, e3]
    rcases hor with ⟨rfl, hcd⟩ | ⟨rfl, hcd⟩
    · skip
      refine ⟨13, x_f_hit ⟨by decide, by decide, by decide⟩ w_cl_Law_13 x_c_IA, fun a_ => ?_⟩
      show Go g 1 6 sh M (sz + 1) 13 [(0, vr o), (1, vi f), (2, vi y), (3, vr q_)] [vr a_]
      refine go_astore (lv' := [(4, vr a_), (0, vr o), (1, vi f), (2, vi y), (3, vr q_)]) X d_Law_run_13 (by decide) rfl ?_
      refine go_iconst (v := 1) X d_Law_run_15 ?_
      refine go_iret X d_Law_run_16 rfl ?_ (by omega) (by omega) ?_
      · rfl
      exact ⟨1, _, hcd.symm, rfl, by decide, rfl, rfl, fun q => absurd q (by decide), Or.inr rfl, fun z _ => rfl⟩
    · skip
      refine ⟨17, x_f_skip ⟨by decide, by decide, by decide⟩ w_cl_Law_13 (by simp [ncAll]) (x_f_hit ⟨by decide, by decide, by decide⟩ w_cl_Law_48 x_c_UO), fun a_ => ?_⟩
      show Go g 1 6 sh M (sz + 1) 17 [(0, vr o), (1, vi f), (2, vi y), (3, vr q_)] [vr a_]
      refine go_astore (lv' := [(4, vr a_), (0, vr o), (1, vi f), (2, vi y), (3, vr q_)]) X d_Law_run_17 (by decide) rfl ?_
      refine go_iconst (v := 2) X d_Law_run_19 ?_
      refine go_iret X d_Law_run_20 rfl ?_ (by omega) (by omega) ?_
      · rfl
      exact ⟨2, _, hcd.symm, rfl, by decide, rfl, rfl, fun q => absurd q (by decide), Or.inr rfl, fun z _ => rfl⟩
set_option maxHeartbeats 4000000 in
set_option maxRecDepth 100000 in
theorem h_kind (l : Launch) (hl : l.stackTraces = false) (D : va_G) {sh : s_S} {M : s_M} {sz o : Int} (hc : cfx sh M o) {nk : Int} {fk : Int → sva} (hst : stv sh M (o + 183) (o + 1) nk fk) {WN : Int → Int} (hwn : sh (o + 1) = some (.inr (.int, 10))) (hWN : M (o + 1) = WN) {i : Int} (hi : -2147483648 ≤ i ∧ i < 2147483648) (hk0 : nk = 0) {q_ : Int} (hqo : sh q_ = some (.inr (.long, 1))) (hq0 : o + 246 < q_) : SpW l D y_Law_kind method_11_code 4 (some .int) [(0, 9, 12, 29)] 10 1 6 [vr o, vi i, vr q_] sh M sz (fun v' sh' M' sz' => ∃ kc vv : Int, kc = (1 : Int) ∧ vv = (0 : Int) ∧ (0 ≤ kc ∧ kc ≤ 2) ∧ v' = some (vi kc) ∧ sh' = sh ∧ (kc = 0 → M' q_ 0 = vv ∧ rL vv) ∧ (sz' = sz ∨ sz' = sz + 1) ∧ fr (fun z => (o + 1 ≤ z ∧ z ≤ o + 246) ∨ z = q_) M M') := by
  have q0 := hc.1
  have q9 : 0 ≤ o := hc.2.2.2.2.2.2.2.2
  refine SpW.ofGo (own := "CiteForgeLaw") (nm := "kind") (by decide) rfl rfl (Nat.le_of_ble_eq_true rfl) (lv := [(0, vr o), (1, vi i), (2, vr q_)]) rfl ?_
  intro g X YY
  refine go_aload_n X d_Law_kind_0 rfl rfl ?_
  refine go_iconst (v := 0) X d_Law_kind_1 ?_
  refine go_aload_n X d_Law_kind_2 rfl rfl ?_
  refine go_iload_n X d_Law_kind_3 rfl rfl ?_
  refine go_callVx (r := [vi 0, vr q_]) X YY k_Law_50.1.1 k_Law_50.1.2.1 k_Law_50.1.2.2.1 w1175 k_Law_50.2.1 k_Law_50.2.2.1 (f_kind0 l hl D hc hst hwn hWN hi hk0) q0 cls10 rfl rfl (by omega) (by decide) (by omega) (by omega) (Nat.le_of_ble_eq_true rfl) d_Law_kind_4 (fun v' sh' M1 sz' hp => ?_) (fun E sh' M1 sz' hx => ?_)
  · skip
    obtain ⟨hcd, e1, e2, e3, f1⟩ := hp
    subst e1
    rw [e2, e3]
    show Go g 1 6 sh M1 sz 7 [(0, vr o), (1, vi i), (2, vr q_)] [vi (0 : Int), vi 0, vr q_]
    refine go_i2l X d_Law_kind_7 (by omega) ?_
    refine go_last X hqo (by omega) (by omega) d_Law_kind_8 ?_
    generalize hM2 : m_s M1 q_ 0 (0 : Int) = M1
    have e3 : M1 q_ 0 = (0 : Int) := by rw [← hM2, m_s_s]
    refine go_goto (tgt := 15) X d_Law_kind_9 rfl ?_
    refine go_iconst (v := 0) X d_Law_kind_15 ?_
    refine go_iret X d_Law_kind_16 rfl ?_ (by omega) (by omega) ?_
    · rfl
    refine ⟨0, _, hcd.symm, rfl, by decide, rfl, rfl, fun _ => ⟨e3, by omega⟩, Or.inl rfl, fun z hz => ?_⟩
    have hz1 : ¬ ((o + 1 ≤ z ∧ z ≤ o + 246) ∨ z = q_) := hz
    rw [← hM2, m_s_a (by omega)]
    exact f1 z (by show ¬ (o + 1 ≤ z ∧ z ≤ o + 246); omega)
  · skip
    obtain ⟨e1, e2, e3, hor⟩ := hx
    rw [e1, e2, e3]
    obtain ⟨rfl, hcd⟩ := hor
    refine ⟨12, x_f_hit ⟨by decide, by decide, by decide⟩ w_cl_Law_29 x_c_IOOB, fun a_ => ?_⟩
    show Go g 1 6 sh M (sz + 1) 12 [(0, vr o), (1, vi i), (2, vr q_)] [vr a_]
    refine go_astore_n (lv' := [(3, vr a_), (0, vr o), (1, vi i), (2, vr q_)]) X d_Law_kind_12 rfl (by decide) rfl ?_
    refine go_iconst (v := 1) X d_Law_kind_13 ?_
    refine go_iret X d_Law_kind_14 rfl ?_ (by omega) (by omega) ?_
    · rfl
    exact ⟨1, _, hcd.symm, rfl, by decide, rfl, rfl, fun q => absurd q (by decide), Or.inr rfl, fun z _ => rfl⟩
set_option maxHeartbeats 4000000 in
set_option maxRecDepth 100000 in
theorem h_value (l : Launch) (hl : l.stackTraces = false) (D : va_G) {sh : s_S} {M : s_M} {sz o : Int} (hc : cfx sh M o) {nk : Int} {fk : Int → sva} (hst : stv sh M (o + 183) (o + 1) nk fk) {WN : Int → Int} (hwn : sh (o + 1) = some (.inr (.int, 10))) (hWN : M (o + 1) = WN) {i : Int} (hi : -2147483648 ≤ i ∧ i < 2147483648) (hk0 : nk = 0) {q_ : Int} (hqo : sh q_ = some (.inr (.long, 1))) (hq0 : o + 246 < q_) : SpW l D y_Law_value method_12_code 4 (some .int) [(0, 9, 12, 29)] 10 1 6 [vr o, vi i, vr q_] sh M sz (fun v' sh' M' sz' => ∃ kc vv : Int, kc = (1 : Int) ∧ vv = (0 : Int) ∧ (0 ≤ kc ∧ kc ≤ 2) ∧ v' = some (vi kc) ∧ sh' = sh ∧ (kc = 0 → M' q_ 0 = vv ∧ rL vv) ∧ (sz' = sz ∨ sz' = sz + 1) ∧ fr (fun z => (o + 1 ≤ z ∧ z ≤ o + 246) ∨ z = q_) M M') := by
  have q0 := hc.1
  have q9 : 0 ≤ o := hc.2.2.2.2.2.2.2.2
  refine SpW.ofGo (own := "CiteForgeLaw") (nm := "value") (by decide) rfl rfl (Nat.le_of_ble_eq_true rfl) (lv := [(0, vr o), (1, vi i), (2, vr q_)]) rfl ?_
  intro g X YY
  refine go_aload_n X d_Law_value_0 rfl rfl ?_
  refine go_iconst (v := 0) X d_Law_value_1 ?_
  refine go_aload_n X d_Law_value_2 rfl rfl ?_
  refine go_iload_n X d_Law_value_3 rfl rfl ?_
  refine go_callVx (r := [vi 0, vr q_]) X YY k_Law_53.1.1 k_Law_53.1.2.1 k_Law_53.1.2.2.1 w1190 k_Law_53.2.1 k_Law_53.2.2.1 (f_value0 l hl D hc hst hwn hWN hi hk0) q0 cls10 rfl rfl (by omega) (by decide) (by omega) (by omega) (Nat.le_of_ble_eq_true rfl) d_Law_value_4 (fun v' sh' M1 sz' hp => ?_) (fun E sh' M1 sz' hx => ?_)
  · skip
    obtain ⟨hcd, e1, e2, e3, f1⟩ := hp
    subst e1
    rw [e2, e3]
    show Go g 1 6 sh M1 sz 7 [(0, vr o), (1, vi i), (2, vr q_)] [vi (0 : Int), vi 0, vr q_]
    refine go_i2l X d_Law_value_7 (by omega) ?_
    refine go_last X hqo (by omega) (by omega) d_Law_value_8 ?_
    generalize hM2 : m_s M1 q_ 0 (0 : Int) = M1
    have e3 : M1 q_ 0 = (0 : Int) := by rw [← hM2, m_s_s]
    refine go_goto (tgt := 15) X d_Law_value_9 rfl ?_
    refine go_iconst (v := 0) X d_Law_value_15 ?_
    refine go_iret X d_Law_value_16 rfl ?_ (by omega) (by omega) ?_
    · rfl
    refine ⟨0, _, hcd.symm, rfl, by decide, rfl, rfl, fun _ => ⟨e3, by omega⟩, Or.inl rfl, fun z hz => ?_⟩
    have hz1 : ¬ ((o + 1 ≤ z ∧ z ≤ o + 246) ∨ z = q_) := hz
    rw [← hM2, m_s_a (by omega)]
    exact f1 z (by show ¬ (o + 1 ≤ z ∧ z ≤ o + 246); omega)
  · skip
    obtain ⟨e1, e2, e3, hor⟩ := hx
    rw [e1, e2, e3]
    obtain ⟨rfl, hcd⟩ := hor
    refine ⟨12, x_f_hit ⟨by decide, by decide, by decide⟩ w_cl_Law_29 x_c_IOOB, fun a_ => ?_⟩
    show Go g 1 6 sh M (sz + 1) 12 [(0, vr o), (1, vi i), (2, vr q_)] [vr a_]
    refine go_astore_n (lv' := [(3, vr a_), (0, vr o), (1, vi i), (2, vr q_)]) X d_Law_value_12 rfl (by decide) rfl ?_
    refine go_iconst (v := 1) X d_Law_value_13 ?_
    refine go_iret X d_Law_value_14 rfl ?_ (by omega) (by omega) ?_
    · rfl
    exact ⟨1, _, hcd.symm, rfl, by decide, rfl, rfl, fun q => absurd q (by decide), Or.inr rfl, fun z _ => rfl⟩
set_option maxHeartbeats 4000000 in
set_option maxRecDepth 100000 in
theorem h_letter (l : Launch) (hl : l.stackTraces = false) (D : va_G) {sh : s_S} {M : s_M} {sz o : Int} (hc : cfx sh M o) {nk : Int} {fk : Int → sva} (hst : stv sh M (o + 183) (o + 1) nk fk) {WN : Int → Int} (hwn : sh (o + 1) = some (.inr (.int, 10))) (hWN : M (o + 1) = WN) {i j : Int} (hi : -2147483648 ≤ i ∧ i < 2147483648) (hk0 : nk = 0) {q_ : Int} (hqo : sh q_ = some (.inr (.long, 1))) (hq0 : o + 246 < q_) : SpW l D y_Law_letter method_13_code 5 (some .int) [(0, 10, 13, 29)] 10 1 6 [vr o, vi i, vi j, vr q_] sh M sz (fun v' sh' M' sz' => ∃ kc vv : Int, kc = (1 : Int) ∧ vv = (0 : Int) ∧ (0 ≤ kc ∧ kc ≤ 2) ∧ v' = some (vi kc) ∧ sh' = sh ∧ (kc = 0 → M' q_ 0 = vv ∧ rL vv) ∧ (sz' = sz ∨ sz' = sz + 1) ∧ fr (fun z => (o + 1 ≤ z ∧ z ≤ o + 246) ∨ z = q_) M M') := by
  have q0 := hc.1
  have q9 : 0 ≤ o := hc.2.2.2.2.2.2.2.2
  refine SpW.ofGo (own := "CiteForgeLaw") (nm := "letter") (by decide) rfl rfl (Nat.le_of_ble_eq_true rfl) (lv := [(0, vr o), (1, vi i), (2, vi j), (3, vr q_)]) rfl ?_
  intro g X YY
  refine go_aload_n X d_Law_letter_0 rfl rfl ?_
  refine go_iconst (v := 0) X d_Law_letter_1 ?_
  refine go_aload_n X d_Law_letter_2 rfl rfl ?_
  refine go_iload_n X d_Law_letter_3 rfl rfl ?_
  refine go_iload_n X d_Law_letter_4 rfl rfl ?_
  refine go_callVx (r := [vi 0, vr q_]) X YY k_Law_56.1.1 k_Law_56.1.2.1 k_Law_56.1.2.2.1 w1198 k_Law_56.2.1 k_Law_56.2.2.1 (f_letter0 l hl D hc hst hwn hWN hi hk0) q0 cls10 rfl rfl (by omega) (by decide) (by omega) (by omega) (Nat.le_of_ble_eq_true rfl) d_Law_letter_5 (fun v' sh' M1 sz' hp => ?_) (fun E sh' M1 sz' hx => ?_)
  · skip
    obtain ⟨hcd, e1, e2, e3, f1⟩ := hp
    subst e1
    rw [e2, e3]
    show Go g 1 6 sh M1 sz 8 [(0, vr o), (1, vi i), (2, vi j), (3, vr q_)] [vi (0 : Int), vi 0, vr q_]
    refine go_i2l X d_Law_letter_8 (by omega) ?_
    refine go_last X hqo (by omega) (by omega) d_Law_letter_9 ?_
    generalize hM2 : m_s M1 q_ 0 (0 : Int) = M1
    have e3 : M1 q_ 0 = (0 : Int) := by rw [← hM2, m_s_s]
    refine go_goto (tgt := 17) X d_Law_letter_10 rfl ?_
    refine go_iconst (v := 0) X d_Law_letter_17 ?_
    refine go_iret X d_Law_letter_18 rfl ?_ (by omega) (by omega) ?_
    · rfl
    refine ⟨0, _, hcd.symm, rfl, by decide, rfl, rfl, fun _ => ⟨e3, by omega⟩, Or.inl rfl, fun z hz => ?_⟩
    have hz1 : ¬ ((o + 1 ≤ z ∧ z ≤ o + 246) ∨ z = q_) := hz
    rw [← hM2, m_s_a (by omega)]
    exact f1 z (by show ¬ (o + 1 ≤ z ∧ z ≤ o + 246); omega)
  · skip
    obtain ⟨e1, e2, e3, hor⟩ := hx
    rw [e1, e2, e3]
    obtain ⟨rfl, hcd⟩ := hor
    refine ⟨13, x_f_hit ⟨by decide, by decide, by decide⟩ w_cl_Law_29 x_c_IOOB, fun a_ => ?_⟩
    show Go g 1 6 sh M (sz + 1) 13 [(0, vr o), (1, vi i), (2, vi j), (3, vr q_)] [vr a_]
    refine go_astore (lv' := [(4, vr a_), (0, vr o), (1, vi i), (2, vi j), (3, vr q_)]) X d_Law_letter_13 (by decide) rfl ?_
    refine go_iconst (v := 1) X d_Law_letter_15 ?_
    refine go_iret X d_Law_letter_16 rfl ?_ (by omega) (by omega) ?_
    · rfl
    exact ⟨1, _, hcd.symm, rfl, by decide, rfl, rfl, fun q => absurd q (by decide), Or.inr rfl, fun z _ => rfl⟩
set_option maxHeartbeats 4000000 in
set_option maxRecDepth 100000 in
theorem h_line (l : Launch) (hl : l.stackTraces = false) (D : va_G) {sh : s_S} {M : s_M} {sz o : Int} (hc : cfx sh M o) {np : Int} {tp : List Int} (hpg : pg0 sh M (o + 221) np tp) {i j : Int} (hi : -2147483648 ≤ i ∧ i < 2147483648) (hp0 : np = 0) {q_ : Int} (hqo : sh q_ = some (.inr (.long, 1))) (hq0 : o + 246 < q_) : SpW l D y_Law_line method_14_code 5 (some .int) [(0, 10, 13, 35), (0, 10, 17, 29)] 10 1 6 [vr o, vi i, vi j, vr q_] sh M sz (fun v' sh' M' sz' => ∃ kc vv : Int, kc = (1 : Int) ∧ vv = (0 : Int) ∧ (0 ≤ kc ∧ kc ≤ 2) ∧ v' = some (vi kc) ∧ sh' = sh ∧ (kc = 0 → M' q_ 0 = vv ∧ rL vv) ∧ (sz' = sz ∨ sz' = sz + 1) ∧ fr (fun z => (o + 1 ≤ z ∧ z ≤ o + 246) ∨ z = q_) M M') := by
  have q0 := hc.1
  have q9 : 0 ≤ o := hc.2.2.2.2.2.2.2.2
  refine SpW.ofGo (own := "CiteForgeLaw") (nm := "line") (by decide) rfl rfl (Nat.le_of_ble_eq_true rfl) (lv := [(0, vr o), (1, vi i), (2, vi j), (3, vr q_)]) rfl ?_
  intro g X YY
  refine go_aload_n X d_Law_line_0 rfl rfl ?_
  refine go_iconst (v := 0) X d_Law_line_1 ?_
  refine go_aload_n X d_Law_line_2 rfl rfl ?_
  refine go_iload_n X d_Law_line_3 rfl rfl ?_
  refine go_iload_n X d_Law_line_4 rfl rfl ?_
  refine go_callVx (r := [vi 0, vr q_]) X YY k_Law_59.1.1 k_Law_59.1.2.1 k_Law_59.1.2.2.1 w1205 k_Law_59.2.1 k_Law_59.2.2.1 (f_line0 l hl D hc hpg hi hp0) q0 cls10 rfl rfl (by omega) (by decide) (by omega) (by omega) (Nat.le_of_ble_eq_true rfl) d_Law_line_5 (fun v' sh' M1 sz' hp => ?_) (fun E sh' M1 sz' hx => ?_)
  · skip
    obtain ⟨hcd, e1, e2, e3, f1⟩ := hp
    subst e1
    rw [e2, e3]
    show Go g 1 6 sh M1 sz 8 [(0, vr o), (1, vi i), (2, vi j), (3, vr q_)] [vi (0 : Int), vi 0, vr q_]
    refine go_i2l X d_Law_line_8 (by omega) ?_
    refine go_last X hqo (by omega) (by omega) d_Law_line_9 ?_
    generalize hM2 : m_s M1 q_ 0 (0 : Int) = M1
    have e3 : M1 q_ 0 = (0 : Int) := by rw [← hM2, m_s_s]
    refine go_goto (tgt := 21) X d_Law_line_10 rfl ?_
    refine go_iconst (v := 0) X d_Law_line_21 ?_
    refine go_iret X d_Law_line_22 rfl ?_ (by omega) (by omega) ?_
    · rfl
    refine ⟨0, _, hcd.symm, rfl, by decide, rfl, rfl, fun _ => ⟨e3, by omega⟩, Or.inl rfl, fun z hz => ?_⟩
    have hz1 : ¬ ((o + 1 ≤ z ∧ z ≤ o + 246) ∨ z = q_) := hz
    rw [← hM2, m_s_a (by omega)]
    exact f1 z (by show ¬ (o + 1 ≤ z ∧ z ≤ o + 246); omega)
  · skip
    obtain ⟨e1, e2, e3, hor⟩ := hx
    rw [e1, e2, e3]
    rcases hor with ⟨rfl, hcd⟩ | ⟨rfl, hcd⟩
    · skip
      refine ⟨13, x_f_hit ⟨by decide, by decide, by decide⟩ w_cl_Law_35 x_c_NSE, fun a_ => ?_⟩
      show Go g 1 6 sh M (sz + 1) 13 [(0, vr o), (1, vi i), (2, vi j), (3, vr q_)] [vr a_]
      refine go_astore (lv' := [(4, vr a_), (0, vr o), (1, vi i), (2, vi j), (3, vr q_)]) X d_Law_line_13 (by decide) rfl ?_
      refine go_iconst (v := 1) X d_Law_line_15 ?_
      refine go_iret X d_Law_line_16 rfl ?_ (by omega) (by omega) ?_
      · rfl
      exact ⟨1, _, hcd.symm, rfl, by decide, rfl, rfl, fun q => absurd q (by decide), Or.inr rfl, fun z _ => rfl⟩
    · skip
      refine ⟨17, x_f_skip ⟨by decide, by decide, by decide⟩ w_cl_Law_35 (by simp [ncAll]) (x_f_hit ⟨by decide, by decide, by decide⟩ w_cl_Law_29 x_c_IOOB), fun a_ => ?_⟩
      show Go g 1 6 sh M (sz + 1) 17 [(0, vr o), (1, vi i), (2, vi j), (3, vr q_)] [vr a_]
      refine go_astore (lv' := [(4, vr a_), (0, vr o), (1, vi i), (2, vi j), (3, vr q_)]) X d_Law_line_17 (by decide) rfl ?_
      refine go_iconst (v := 2) X d_Law_line_19 ?_
      refine go_iret X d_Law_line_20 rfl ?_ (by omega) (by omega) ?_
      · rfl
      exact ⟨2, _, hcd.symm, rfl, by decide, rfl, rfl, fun q => absurd q (by decide), Or.inr rfl, fun z _ => rfl⟩
set_option maxHeartbeats 4000000 in
set_option maxRecDepth 100000 in
theorem h_count (l : Launch) (hl : l.stackTraces = false) (D : va_G) {sh : s_S} {M : s_M} {sz o : Int} (hc : cfx sh M o) {ns : Int} {E : Int → sen} (hsh : shv sh M (o + 2) (o + 1) ns E) {n m : Int} {WC L : Int → Int} (hci : civ sh M (o + 180) (o + 2) (o + 1) n m WC L) {np : Int} {tp : List Int} (hpg : pg0 sh M (o + 221) np tp) {i : Int} (hi : -2147483648 ≤ i ∧ i < 2147483648) (hnp : np < 2147483648) {q_ : Int} (hqo : sh q_ = some (.inr (.long, 1))) (hq0 : o + 246 < q_) : SpW l D y_Law_count method_15_code 4 (some .int) [(0, 9, 12, 29)] 10 1 6 [vr o, vi i, vr q_] sh M sz (fun v' sh' M' sz' => ∃ kc vv : Int, kc = cok i ∧ vv = cov i ns m np (tp.length : Int) n ∧ (0 ≤ kc ∧ kc ≤ 2) ∧ v' = some (vi kc) ∧ sh' = sh ∧ (kc = 0 → M' q_ 0 = vv ∧ rL vv) ∧ (sz' = sz ∨ sz' = sz + 1) ∧ fr (fun z => (o + 1 ≤ z ∧ z ≤ o + 246) ∨ z = q_) M M') := by
  have q0 := hc.1
  have q9 : 0 ≤ o := hc.2.2.2.2.2.2.2.2
  refine SpW.ofGo (own := "CiteForgeLaw") (nm := "count") (by decide) rfl rfl (Nat.le_of_ble_eq_true rfl) (lv := [(0, vr o), (1, vi i), (2, vr q_)]) rfl ?_
  intro g X YY
  refine go_aload_n X d_Law_count_0 rfl rfl ?_
  refine go_iconst (v := 0) X d_Law_count_1 ?_
  refine go_aload_n X d_Law_count_2 rfl rfl ?_
  refine go_iload_n X d_Law_count_3 rfl rfl ?_
  refine go_callVx (r := [vi 0, vr q_]) X YY k_Law_62.1.1 k_Law_62.1.2.1 k_Law_62.1.2.2.1 w1220 k_Law_62.2.1 k_Law_62.2.2.1 (f_count l hl D hc hsh hci hpg hi hnp) q0 cls10 rfl rfl (by omega) (by decide) (by omega) (by omega) (Nat.le_of_ble_eq_true rfl) d_Law_count_4 (fun v' sh' M1 sz' hp => ?_) (fun E sh' M1 sz' hx => ?_)
  · skip
    obtain ⟨hcd, e1, e2, e3, f1⟩ := hp
    subst e1
    rw [e2, e3]
    show Go g 1 6 sh M1 sz 7 [(0, vr o), (1, vi i), (2, vr q_)] [vi (cov i ns m np (tp.length : Int) n), vi 0, vr q_]
    have hv0 := cov_rng (i := i) (a := ns) (b := m) (c := np) (d := (tp.length : Int)) (e := n) (by have := hsh.2.2.2.2.2.2.1; omega) (by have := hci.2.2.2.2.2.2.2.2.2.2.2.1; omega) (by have := hpg.2.2.2.2.2.1; omega) (by have := hpg.2.2.2.2.2.2.2.len; omega) (by have := hci.2.2.2.2.2.2.2.2.2.2.1; omega)
    refine go_i2l X d_Law_count_7 (by omega) ?_
    refine go_last X hqo (by omega) (by omega) d_Law_count_8 ?_
    generalize hM2 : m_s M1 q_ 0 (cov i ns m np (tp.length : Int) n) = M1
    have e3 : M1 q_ 0 = cov i ns m np (tp.length : Int) n := by rw [← hM2, m_s_s]
    refine go_goto (tgt := 15) X d_Law_count_9 rfl ?_
    refine go_iconst (v := 0) X d_Law_count_15 ?_
    refine go_iret X d_Law_count_16 rfl ?_ (by omega) (by omega) ?_
    · rfl
    refine ⟨0, _, hcd.symm, rfl, by decide, rfl, rfl, fun _ => ⟨e3, by omega⟩, Or.inl rfl, fun z hz => ?_⟩
    have hz1 : ¬ ((o + 1 ≤ z ∧ z ≤ o + 246) ∨ z = q_) := hz
    rw [← hM2, m_s_a (by omega)]
    exact f1 z (by show ¬ (o + 1 ≤ z ∧ z ≤ o + 246); omega)
  · skip
    obtain ⟨e1, e2, e3, hor⟩ := hx
    rw [e1, e2, e3]
    obtain ⟨rfl, hcd⟩ := hor
    refine ⟨12, x_f_hit ⟨by decide, by decide, by decide⟩ w_cl_Law_29 x_c_IOOB, fun a_ => ?_⟩
    show Go g 1 6 sh M (sz + 1) 12 [(0, vr o), (1, vi i), (2, vr q_)] [vr a_]
    refine go_astore_n (lv' := [(3, vr a_), (0, vr o), (1, vi i), (2, vr q_)]) X d_Law_count_12 rfl (by decide) rfl ?_
    refine go_iconst (v := 1) X d_Law_count_13 ?_
    refine go_iret X d_Law_count_14 rfl ?_ (by omega) (by omega) ?_
    · rfl
    exact ⟨1, _, hcd.symm, rfl, by decide, rfl, rfl, fun q => absurd q (by decide), Or.inr rfl, fun z _ => rfl⟩
set_option maxHeartbeats 4000000 in
set_option maxRecDepth 100000 in
theorem h_warnings (l : Launch) (hl : l.stackTraces = false) (D : va_G) {sh : s_S} {M : s_M} {sz o : Int} (hc : cfx sh M o)  {WN : Int → Int} (hwn : sh (o + 1) = some (.inr (.int, 10))) (hWN : M (o + 1) = WN) {i : Int} (hi : -2147483648 ≤ i ∧ i < 2147483648) {q_ : Int} (hqo : sh q_ = some (.inr (.long, 1))) (hq0 : o + 246 < q_) : SpW l D y_Law_warnings method_16_code 4 (some .int) [(0, 9, 12, 29)] 10 1 6 [vr o, vi i, vr q_] sh M sz (fun v' sh' M' sz' => ∃ kc vv : Int, kc = wak i ∧ vv = wi32 (WN i) ∧ (0 ≤ kc ∧ kc ≤ 2) ∧ v' = some (vi kc) ∧ sh' = sh ∧ (kc = 0 → M' q_ 0 = vv ∧ rL vv) ∧ (sz' = sz ∨ sz' = sz + 1) ∧ fr (fun z => (o + 1 ≤ z ∧ z ≤ o + 246) ∨ z = q_) M M') := by
  have q0 := hc.1
  have q9 : 0 ≤ o := hc.2.2.2.2.2.2.2.2
  refine SpW.ofGo (own := "CiteForgeLaw") (nm := "warnings") (by decide) rfl rfl (Nat.le_of_ble_eq_true rfl) (lv := [(0, vr o), (1, vi i), (2, vr q_)]) rfl ?_
  intro g X YY
  refine go_aload_n X d_Law_warnings_0 rfl rfl ?_
  refine go_iconst (v := 0) X d_Law_warnings_1 ?_
  refine go_aload_n X d_Law_warnings_2 rfl rfl ?_
  refine go_iload_n X d_Law_warnings_3 rfl rfl ?_
  refine go_callVx (r := [vi 0, vr q_]) X YY k_Law_65.1.1 k_Law_65.1.2.1 k_Law_65.1.2.2.1 w1239 k_Law_65.2.1 k_Law_65.2.2.1 (f_warnings l hl D hc  hwn hWN hi) q0 cls10 rfl rfl (by omega) (by decide) (by omega) (by omega) (Nat.le_of_ble_eq_true rfl) d_Law_warnings_4 (fun v' sh' M1 sz' hp => ?_) (fun E sh' M1 sz' hx => ?_)
  · skip
    obtain ⟨hcd, e1, e2, e3, f1⟩ := hp
    subst e1
    rw [e2, e3]
    show Go g 1 6 sh M1 sz 7 [(0, vr o), (1, vi i), (2, vr q_)] [vi (wi32 (WN i)), vi 0, vr q_]
    have hv0 := wi32_rng (WN i)
    refine go_i2l X d_Law_warnings_7 (by omega) ?_
    refine go_last X hqo (by omega) (by omega) d_Law_warnings_8 ?_
    generalize hM2 : m_s M1 q_ 0 (wi32 (WN i)) = M1
    have e3 : M1 q_ 0 = wi32 (WN i) := by rw [← hM2, m_s_s]
    refine go_goto (tgt := 15) X d_Law_warnings_9 rfl ?_
    refine go_iconst (v := 0) X d_Law_warnings_15 ?_
    refine go_iret X d_Law_warnings_16 rfl ?_ (by omega) (by omega) ?_
    · rfl
    refine ⟨0, _, hcd.symm, rfl, by decide, rfl, rfl, fun _ => ⟨e3, by omega⟩, Or.inl rfl, fun z hz => ?_⟩
    have hz1 : ¬ ((o + 1 ≤ z ∧ z ≤ o + 246) ∨ z = q_) := hz
    rw [← hM2, m_s_a (by omega)]
    exact f1 z (by show ¬ (o + 1 ≤ z ∧ z ≤ o + 246); omega)
  · skip
    obtain ⟨e1, e2, e3, hor⟩ := hx
    rw [e1, e2, e3]
    obtain ⟨rfl, hcd⟩ := hor
    refine ⟨12, x_f_hit ⟨by decide, by decide, by decide⟩ w_cl_Law_29 x_c_IOOB, fun a_ => ?_⟩
    show Go g 1 6 sh M (sz + 1) 12 [(0, vr o), (1, vi i), (2, vr q_)] [vr a_]
    refine go_astore_n (lv' := [(3, vr a_), (0, vr o), (1, vi i), (2, vr q_)]) X d_Law_warnings_12 rfl (by decide) rfl ?_
    refine go_iconst (v := 1) X d_Law_warnings_13 ?_
    refine go_iret X d_Law_warnings_14 rfl ?_ (by omega) (by omega) ?_
    · rfl
    exact ⟨1, _, hcd.symm, rfl, by decide, rfl, rfl, fun q => absurd q (by decide), Or.inr rfl, fun z _ => rfl⟩
