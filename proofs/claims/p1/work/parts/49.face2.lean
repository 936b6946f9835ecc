set_option maxHeartbeats 4000000 in
set_option maxRecDepth 100000 in
theorem f_read0 (l : Launch) (D : va_G) {sh : s_S} {M : s_M} {sz o : Int} (hc : cfx sh M o) {ns : Int} {E : Int → sen} (hsh : shv sh M (o + 2) (o + 1) ns E) {nr : Int} {t : List Int} {WR : Int → Int} {YR : Int → List Int} {vR : List Int} (hrd : rdv sh M (o + 157) (o + 2) (o + 1) nr t WR YR vR) {n m : Int} {WC L : Int → Int} (hci : civ sh M (o + 180) (o + 2) (o + 1) n m WC L) (ht : t = []) : Sp l D y_CiteForge_read prog_1_method_4_code 2 (some .int) 5 0 0 [vr o] sh M sz (fun v' sh' M' sz' => v' = some (vi 0) ∧ sh' = sh ∧ sz' = sz ∧ shv sh M' (o + 2) (o + 1) 0 E ∧ rdv sh M' (o + 157) (o + 2) (o + 1) 0 t WR YR vR ∧ civ sh M' (o + 180) (o + 2) (o + 1) n 0 WC L ∧ fr (fun z => o + 1 ≤ z ∧ z ≤ o + 246) M M') := by
  have q0 := hc.1
  have q8 : 0 ≤ o := hc.2.2.2.2.2.2.2.2
  have q2 := hc.2.2.1
  have q3 := hc.2.2.2.1
  have q4 := hc.2.2.2.2.1
  refine Sp.ofGo (own := "CiteForge") (nm := "read") (by decide) rfl rfl (Nat.le_of_ble_eq_true rfl) (lv := [(0, vr o)]) rfl ?_
  intro g X
  refine go_aload_n X d_CiteForge_read_0 rfl rfl ?_
  refine go_get (v := vr (o + 180)) X f_CiteForge_34 q0 rfl d_CiteForge_read_1 (s_vref q4 (by omega)) ?_
  refine go_cV (st2 := []) (r := []) X k_CiteForge_83 (c_Citations_dropList l D hci) hci.1 rfl rfl (by omega) (Nat.le_of_ble_eq_true rfl) d_CiteForge_read_4 (by omega) (by omega) (fun v' sh' M1 sz' hp2 => ?_)
  obtain ⟨e3, e4, e5, pd7, fr6⟩ := hp2
  subst e3
  rw [e4, e5]
  show Go g 0 0 sh M1 sz 7 [(0, vr o)] []
  have e8 : M1 o 1 = o + 2 := (congrFun (fr6 o (by omega)) _).trans q2
  have e9 : M1 o 2 = o + 157 := (congrFun (fr6 o (by omega)) _).trans q3
  have e10 : M1 o 3 = o + 180 := (congrFun (fr6 o (by omega)) _).trans q4
  have pd11 : shv sh M1 (o + 2) (o + 1) ns E := hsh.mv (fun z h1 h2 => ⟨rfl, fr6 z (by omega)⟩) rfl
  have pd12 : rdv sh M1 (o + 157) (o + 2) (o + 1) nr t WR YR vR := hrd.mv (fun z h1 h2 => ⟨rfl, fr6 z (by omega)⟩) rfl
  have fr13 : fr (fun z => o + 1 ≤ z ∧ z ≤ o + 246) M M1 := fun z hz => by
    have hz1 : ¬ (o + 1 ≤ z ∧ z ≤ o + 246) := hz
    exact (fr6 z (by omega))
  clear q2 q3 q4
  refine go_aload_n X d_CiteForge_read_7 rfl rfl ?_
  refine go_get (v := vr (o + 157)) X f_CiteForge_27 q0 rfl d_CiteForge_read_8 (s_vref e9 (by omega)) ?_
  refine go_cV (st2 := []) (r := []) X k_CiteForge_86 (c_Reader_begin l D pd12 pd11 (by omega)) hrd.1 rfl rfl (by omega) (Nat.le_of_ble_eq_true rfl) d_CiteForge_read_11 (by omega) (by omega) (fun v' sh' M14 sz' hp15 => ?_)
  obtain ⟨e16, e17, e18, pd20, pd21, fc22, fc23, fr19⟩ := hp15
  subst e16
  rw [e17, e18]
  show Go g 0 0 sh M14 sz 14 [(0, vr o)] []
  have e24 : M14 o 1 = o + 2 := (congrFun (fr19 o (by omega)) _).trans e8
  have e25 : M14 o 2 = o + 157 := (congrFun (fr19 o (by omega)) _).trans e9
  have e26 : M14 o 3 = o + 180 := (congrFun (fr19 o (by omega)) _).trans e10
  have pd27 : civ sh M14 (o + 180) (o + 2) (o + 1) n 0 WC L := pd7.mv (fun z h1 h2 => ⟨rfl, fr19 z (by omega)⟩) rfl
  have fr28 : fr (fun z => o + 1 ≤ z ∧ z ≤ o + 246) M M14 := fun z hz => by
    have hz1 : ¬ (o + 1 ≤ z ∧ z ≤ o + 246) := hz
    exact (fr19 z (by omega)).trans (fr13 z hz)
  clear e10 e8 e9 fr13 pd11 pd12 pd7
  refine go_iconst (v := 0) X d_CiteForge_read_14 ?_
  refine go_istore_n (lv' := [(1, vi 0), (0, vr o)]) X d_CiteForge_read_15 rfl (by decide) rfl ?_
  refine go_iload_n X d_CiteForge_read_16 rfl rfl ?_
  refine go_sipush (v := 320) X d_CiteForge_read_17 (by decide) ?_
  refine go_icmp_ge (tgt := 56) X d_CiteForge_read_20 rfl (by omega) (by omega) (fun h9 => absurd h9 (by decide)) (fun _ => ?_)
  refine go_aload_n X d_CiteForge_read_23 rfl rfl ?_
  refine go_get (v := vr (o + 157)) X f_CiteForge_27 q0 rfl d_CiteForge_read_24 (s_vref e25 (by omega)) ?_
  refine go_cVf (st2 := [vi 0]) (r := []) X k_CiteForge_89 (c_Reader_findItem0 l D pd21 fc23 fc22 ht) hrd.1 rfl rfl (by omega) (Nat.le_of_ble_eq_true rfl) d_CiteForge_read_27 (by omega) (by omega) rfl ?_
  refine go_if_eq (tgt := 56) X d_CiteForge_read_30 rfl (by omega) (fun _ => ?_) (fun h9 => absurd h9 (by decide))
  refine go_aload_n X d_CiteForge_read_56 rfl rfl ?_
  refine go_get (v := vr (o + 2)) X f_CiteForge_18 q0 rfl d_CiteForge_read_57 (s_vref e24 (by omega)) ?_
  refine go_cVf (st2 := [vi 0]) (r := []) X k_CiteForge_99 (c_Shelf_size l D pd20) hsh.1 rfl rfl (by omega) (Nat.le_of_ble_eq_true rfl) d_CiteForge_read_60 (by omega) (by omega) rfl ?_
  refine go_iret X d_CiteForge_read_63 rfl ?_ (by omega) (by omega) ?_
  · rfl
  exact ⟨rfl, rfl, rfl, pd20, pd21, pd27, fr28⟩
def lsk (i : Int) : Int := if i < 1 then 1 else 0
set_option maxHeartbeats 4000000 in
set_option maxRecDepth 100000 in
theorem f_list0 (l : Launch) (hl : l.stackTraces = false) (D : va_G) {sh : s_S} {M : s_M} {sz o : Int} (hc : cfx sh M o) {ns : Int} {E : Int → sen} (hsh : shv sh M (o + 2) (o + 1) ns E) {n m : Int} {WC L : Int → Int} (hci : civ sh M (o + 180) (o + 2) (o + 1) n m WC L) {i : Int} (hi : -2147483648 ≤ i ∧ i < 2147483648) (hn0 : n = 0) (hns : ns = 0) : SpX l D y_CiteForge_list prog_1_method_7_code 2 (some .int) 8 1 6 [vr o, vi i] sh M sz (fun v' sh' M' sz' => (lsk i) = 0 ∧ v' = some (vi 0) ∧ sh' = sh ∧ sz' = sz ∧ shv sh M' (o + 2) (o + 1) ns E ∧ civ sh M' (o + 180) (o + 2) (o + 1) n 0 WC L ∧ fr (fun z => o + 1 ≤ z ∧ z ≤ o + 246) M M') (fun E sh' M' sz' => sh' = sh ∧ M' = M ∧ sz' = sz + 1 ∧ ((E = "java/lang/IllegalArgumentException" ∧ (lsk i) = 1))) := by
  have q0 := hc.1
  have q8 : 0 ≤ o := hc.2.2.2.2.2.2.2.2
  have q4 := hc.2.2.2.2.1
  refine SpX.ofGo hl (own := "CiteForge") (nm := "list") (by decide) rfl rfl (Nat.le_of_ble_eq_true rfl) (lv := [(0, vr o), (1, vi i)]) rfl ?_
  intro g X XX
  refine go_iload_n X d_CiteForge_list_0 rfl rfl ?_
  refine go_iconst (v := 1) X d_CiteForge_list_1 ?_
  refine go_icmp_ge (tgt := 13) X d_CiteForge_list_2 rfl (by omega) (by omega) (fun hq1 => ?_) (fun hq1 => ?_)
  · skip
    refine go_aload_n X d_CiteForge_list_13 rfl rfl ?_
    refine go_get (v := vr (o + 180)) X f_CiteForge_34 q0 rfl d_CiteForge_list_14 (s_vref q4 (by omega)) ?_
    refine go_iload_n X d_CiteForge_list_17 rfl rfl ?_
    refine go_cV (st2 := []) (r := []) X k_CiteForge_120 (c_Citations_makeList0 l D hci (by omega) hn0 hsh hns (by omega)) hci.1 rfl rfl (by omega) (Nat.le_of_ble_eq_true rfl) d_CiteForge_list_18 (by omega) (by omega) (fun v' sh' M2 sz' hp3 => ?_)
    obtain ⟨e4, e5, e6, pd8, fr7⟩ := hp3
    subst e4
    rw [e5, e6]
    show Go g 0 0 sh M2 sz 21 [(0, vr o), (1, vi i)] []
    have e9 : M2 o 3 = o + 180 := (congrFun (fr7 o (by omega)) _).trans q4
    have pd10 : shv sh M2 (o + 2) (o + 1) ns E := hsh.mv (fun z h1 h2 => ⟨rfl, fr7 z (by omega)⟩) rfl
    have fr11 : fr (fun z => o + 1 ≤ z ∧ z ≤ o + 246) M M2 := fun z hz => by
      have hz1 : ¬ (o + 1 ≤ z ∧ z ≤ o + 246) := hz
      exact (fr7 z (by omega))
    clear q4
    refine go_aload_n X d_CiteForge_list_21 rfl rfl ?_
    refine go_get (v := vr (o + 180)) X f_CiteForge_34 q0 rfl d_CiteForge_list_22 (s_vref e9 (by omega)) ?_
    refine go_cVf (st2 := [vi 0]) (r := []) X k_CiteForge_124 (c_Citations_listSize l D pd8) hci.1 rfl rfl (by omega) (Nat.le_of_ble_eq_true rfl) d_CiteForge_list_25 (by omega) (by omega) rfl ?_
    refine go_iret X d_CiteForge_list_28 rfl ?_ (by omega) (by omega) ?_
    · rfl
    exact ⟨if_neg (by omega), rfl, rfl, rfl, pd10, pd8, fr11⟩
  · skip
    refine go_throw X XX x_K_IA d_CiteForge_list_5 d_CiteForge_list_8 d_CiteForge_list_9 d_CiteForge_list_12 (by omega) (by omega) (by omega) ?_
    exact ⟨rfl, rfl, rfl, ⟨rfl, if_pos (by omega)⟩⟩
set_option maxHeartbeats 4000000 in
set_option maxRecDepth 100000 in
theorem f_key0 (l : Launch) (hl : l.stackTraces = false) (D : va_G) {sh : s_S} {M : s_M} {sz o : Int} (hc : cfx sh M o) {n m : Int} {WC L : Int → Int} (hci : civ sh M (o + 180) (o + 2) (o + 1) n m WC L) {i : Int} (hi : -2147483648 ≤ i ∧ i < 2147483648) (hm : m = 0) : SpX l D y_CiteForge_key prog_1_method_8_code 2 (some .long) 8 1 6 [vr o, vi i] sh M sz (fun v' sh' M' sz' => ((1 : Int)) = 0 ∧ v' = some (vl 0) ∧ sh' = sh ∧ sz' = sz ∧ fr (fun z => o + 1 ≤ z ∧ z ≤ o + 246) M M') (fun E sh' M' sz' => sh' = sh ∧ M' = M ∧ sz' = sz + 1 ∧ ((E = "java/lang/IndexOutOfBoundsException" ∧ ((1 : Int)) = 1))) := by
  have q0 := hc.1
  have q8 : 0 ≤ o := hc.2.2.2.2.2.2.2.2
  have q4 := hc.2.2.2.2.1
  refine SpX.ofGo hl (own := "CiteForge") (nm := "key") (by decide) rfl rfl (Nat.le_of_ble_eq_true rfl) (lv := [(0, vr o), (1, vi i)]) rfl ?_
  intro g X XX
  refine go_aload_n X d_CiteForge_key_0 rfl rfl ?_
  refine go_get (v := vr (o + 180)) X f_CiteForge_34 q0 rfl d_CiteForge_key_1 (s_vref q4 (by omega)) ?_
  refine go_iload_n X d_CiteForge_key_4 rfl rfl ?_
  refine go_cVf (st2 := [vi (s_b (decide (0 ≤ i ∧ i < m)))]) (r := []) X k_CiteForge_127 (c_Citations_isListed l D hci (by omega)) hci.1 rfl rfl (by omega) (Nat.le_of_ble_eq_true rfl) d_CiteForge_key_5 (by omega) (by omega) rfl ?_
  refine go_ifb_ne (tgt := 19) X d_CiteForge_key_8 rfl (fun hq1 => ?_) (fun hq1 => ?_)
  · skip
    exfalso
    simp only [decide_eq_true_eq, decide_eq_false_iff_not] at hq1
    omega
  · skip
    refine go_throw X XX x_K_IOOB d_CiteForge_key_11 d_CiteForge_key_14 d_CiteForge_key_15 d_CiteForge_key_18 (by omega) (by omega) (by omega) ?_
    exact ⟨rfl, rfl, rfl, ⟨rfl, rfl⟩⟩
set_option maxHeartbeats 4000000 in
set_option maxRecDepth 100000 in
theorem f_field0 (l : Launch) (hl : l.stackTraces = false) (D : va_G) {sh : s_S} {M : s_M} {sz o : Int} (hc : cfx sh M o) {n m : Int} {WC L : Int → Int} (hci : civ sh M (o + 180) (o + 2) (o + 1) n m WC L) {i x j : Int} (hi : -2147483648 ≤ i ∧ i < 2147483648) (hm : m = 0) : SpX l D y_CiteForge_field prog_1_method_10_code 6 (some .int) 8 1 6 [vr o, vi i, vl x, vi j] sh M sz (fun v' sh' M' sz' => ((1 : Int)) = 0 ∧ v' = some (vi 0) ∧ sh' = sh ∧ sz' = sz ∧ fr (fun z => o + 1 ≤ z ∧ z ≤ o + 246) M M') (fun E sh' M' sz' => sh' = sh ∧ M' = M ∧ sz' = sz + 1 ∧ ((E = "java/lang/IndexOutOfBoundsException" ∧ ((1 : Int)) = 1) ∨ (E = "java/util/NoSuchElementException" ∧ ((1 : Int)) = 2))) := by
  have q0 := hc.1
  have q8 : 0 ≤ o := hc.2.2.2.2.2.2.2.2
  have q2 := hc.2.2.1
  have q4 := hc.2.2.2.2.1
  refine SpX.ofGo hl (own := "CiteForge") (nm := "field") (by decide) rfl rfl (Nat.le_of_ble_eq_true rfl) (lv := [(0, vr o), (1, vi i), (2, vl x), (4, vi j)]) rfl ?_
  intro g X XX
  refine go_aload_n X d_CiteForge_field_0 rfl rfl ?_
  refine go_get (v := vr (o + 180)) X f_CiteForge_34 q0 rfl d_CiteForge_field_1 (s_vref q4 (by omega)) ?_
  refine go_iload_n X d_CiteForge_field_4 rfl rfl ?_
  refine go_cVf (st2 := [vi (s_b (decide (0 ≤ i ∧ i < m)))]) (r := []) X k_CiteForge_127 (c_Citations_isListed l D hci (by omega)) hci.1 rfl rfl (by omega) (Nat.le_of_ble_eq_true rfl) d_CiteForge_field_5 (by omega) (by omega) rfl ?_
  refine go_ifb_ne (tgt := 19) X d_CiteForge_field_8 rfl (fun hq1 => ?_) (fun hq1 => ?_)
  · skip
    exfalso
    simp only [decide_eq_true_eq, decide_eq_false_iff_not] at hq1
    omega
  · skip
    refine go_throw X XX x_K_IOOB d_CiteForge_field_11 d_CiteForge_field_14 d_CiteForge_field_15 d_CiteForge_field_18 (by omega) (by omega) (by omega) ?_
    exact ⟨rfl, rfl, rfl, Or.inl ⟨rfl, rfl⟩⟩
set_option maxHeartbeats 4000000 in
set_option maxRecDepth 100000 in
theorem f_sort0 (l : Launch) (D : va_G) {sh : s_S} {M : s_M} {sz o : Int} (hc : cfx sh M o) {n m : Int} {WC L : Int → Int} (hci : civ sh M (o + 180) (o + 2) (o + 1) n m WC L) (hm : m = 0) : Sp l D y_CiteForge_sort prog_1_method_9_code 1 (some .boolean) 4 0 0 [vr o] sh M sz (fun v' sh' M' sz' => v' = some (vi 0) ∧ sh' = sh ∧ sz' = sz ∧ fr (fun z => o + 1 ≤ z ∧ z ≤ o + 246) M M') := by
  have q0 := hc.1
  have q8 : 0 ≤ o := hc.2.2.2.2.2.2.2.2
  have q4 := hc.2.2.2.2.1
  refine Sp.ofGo (own := "CiteForge") (nm := "sort") (by decide) rfl rfl (Nat.le_of_ble_eq_true rfl) (lv := [(0, vr o)]) rfl ?_
  intro g X
  refine go_aload_n X d_CiteForge_sort_0 rfl rfl ?_
  refine go_get (v := vr (o + 180)) X f_CiteForge_34 q0 rfl d_CiteForge_sort_1 (s_vref q4 (by omega)) ?_
  refine go_cVf (st2 := [vi 0]) (r := []) X k_CiteForge_143 (c_Citations_sortList0 l D hci (by omega)) hci.1 rfl rfl (by omega) (Nat.le_of_ble_eq_true rfl) d_CiteForge_sort_4 (by omega) (by omega) rfl ?_
  refine go_iret X d_CiteForge_sort_7 rfl ?_ (by omega) (by omega) ?_
  · rfl
  exact ⟨rfl, rfl, rfl, fun z _ => rfl⟩
def rnk (f y : Int) : Int := if (0 ≤ f ∧ f < 6) ∧ 0 ≤ y ∧ y ≤ 2 then 0 else 1
set_option maxHeartbeats 4000000 in
set_option maxRecDepth 100000 in
theorem f_run0 (l : Launch) (hl : l.stackTraces = false) (D : va_G) {sh : s_S} {M : s_M} {sz o : Int} (hc : cfx sh M o) {n m : Int} {WC L : Int → Int} (hci : civ sh M (o + 180) (o + 2) (o + 1) n m WC L) {O Q Z G : Int → Int} {t1 t2 t3 : List Int} {v1 v2 : sva} (hmc : mcx sh M (o + 225) (o + 2) (o + 180) (o + 183) (o + 221) (o + 1) O Q Z G t1 t2 t3 v1 v2) {f y : Int} (hf : -2147483648 ≤ f ∧ f < 2147483648) (hy : -2147483648 ≤ y ∧ y < 2147483648) (hm : m = 0) (hZ0 : ∀ f, Z f = 0) : SpX l D y_CiteForge_run prog_1_method_13_code 3 (some .int) 8 1 6 [vr o, vi f, vi y] sh M sz (fun v' sh' M' sz' => (rnk f y) = 0 ∧ v' = some (vi 0) ∧ sh' = sh ∧ sz' = sz ∧ mcx sh M' (o + 225) (o + 2) (o + 180) (o + 183) (o + 221) (o + 1) O Q Z G t1 t2 t3 v1 v2 ∧ fr (fun z => o + 1 ≤ z ∧ z ≤ o + 246) M M') (fun E sh' M' sz' => sh' = sh ∧ M' = M ∧ sz' = sz + 1 ∧ ((E = "java/lang/IllegalArgumentException" ∧ (rnk f y) = 1) ∨ (E = "java/lang/UnsupportedOperationException" ∧ (rnk f y) = 2))) := by
  have q0 := hc.1
  have q8 : 0 ≤ o := hc.2.2.2.2.2.2.2.2
  have q7 := hc.2.2.2.2.2.2.2.1
  refine SpX.ofGo hl (own := "CiteForge") (nm := "run") (by decide) rfl rfl (Nat.le_of_ble_eq_true rfl) (lv := [(0, vr o), (1, vi f), (2, vi y)]) rfl ?_
  intro g X XX
  refine go_iload_n X d_CiteForge_run_0 rfl rfl ?_
  refine go_cSf (st2 := [vi (s_b (decide (0 ≤ f ∧ f < 6)))]) (r := []) X k_CiteForge_162 (c_Machine_isFunction l D (by omega)) rfl rfl (by omega) (Nat.le_of_ble_eq_true rfl) d_CiteForge_run_1 (by omega) (by omega) rfl ?_
  refine go_ifb_eq (tgt := 16) X d_CiteForge_run_4 rfl (fun hq1 => ?_) (fun hq1 => ?_)
  · skip
    simp only [decide_eq_true_eq, decide_eq_false_iff_not] at hq1
    refine go_throw X XX x_K_IA d_CiteForge_run_16 d_CiteForge_run_19 d_CiteForge_run_20 d_CiteForge_run_23 (by omega) (by omega) (by omega) ?_
    exact ⟨rfl, rfl, rfl, Or.inl ⟨rfl, if_neg (by omega)⟩⟩
  · skip
    simp only [decide_eq_true_eq, decide_eq_false_iff_not] at hq1
    refine go_iload_n X d_CiteForge_run_7 rfl rfl ?_
    refine go_if_lt (tgt := 16) X d_CiteForge_run_8 rfl (by omega) (fun hq2 => ?_) (fun hq2 => ?_)
    · skip
      refine go_throw X XX x_K_IA d_CiteForge_run_16 d_CiteForge_run_19 d_CiteForge_run_20 d_CiteForge_run_23 (by omega) (by omega) (by omega) ?_
      exact ⟨rfl, rfl, rfl, Or.inl ⟨rfl, if_neg (by omega)⟩⟩
    · skip
      refine go_iload_n X d_CiteForge_run_11 rfl rfl ?_
      refine go_iconst (v := 2) X d_CiteForge_run_12 ?_
      refine go_icmp_le (tgt := 24) X d_CiteForge_run_13 rfl (by omega) (by omega) (fun hq3 => ?_) (fun hq3 => ?_)
      · skip
        refine go_aload_n X d_CiteForge_run_24 rfl rfl ?_
        refine go_get (v := vr (o + 225)) X f_CiteForge_57 q0 rfl d_CiteForge_run_25 (s_vref q7 (by omega)) ?_
        refine go_iload_n X d_CiteForge_run_28 rfl rfl ?_
        refine go_iload_n X d_CiteForge_run_29 rfl rfl ?_
        refine go_cV (st2 := []) (r := []) X k_CiteForge_178 (c_Machine_start0 l D hmc.1 (by omega) (hZ0 f) (by omega) hci hm (by omega)) hmc.1.1 rfl rfl (by omega) (Nat.le_of_ble_eq_true rfl) d_CiteForge_run_30 (by omega) (by omega) (fun v' sh' M4 sz' hp5 => ?_)
        obtain ⟨e6, e7, e8, pd10, fc11, fr9⟩ := hp5
        subst e6
        rw [e7, e8]
        show Go g 0 0 sh M4 sz 33 [(0, vr o), (1, vi f), (2, vi y)] [vi 1]
        have pd12 : mcx sh M4 (o + 225) (o + 2) (o + 180) (o + 183) (o + 221) (o + 1) O Q Z G t1 t2 t3 v1 v2 := ⟨pd10, hmc.2.1.mv (fun z h1 h2 => ⟨rfl, fr9 z (by omega)⟩), hmc.2.2.1.mv (fun z h1 h2 => ⟨rfl, fr9 z (by omega)⟩), hmc.2.2.2.1.mv (fun z h1 h2 => ⟨rfl, fr9 z (by omega)⟩), hmc.2.2.2.2.1.mv (fun z h1 h2 => ⟨rfl, fr9 z (by omega)⟩), hmc.2.2.2.2.2.mv (fun z h1 h2 => ⟨rfl, fr9 z (by omega)⟩)⟩
        have e13 : M4 o 6 = o + 225 := (congrFun (fr9 o (by omega)) _).trans q7
        have pd14 : civ sh M4 (o + 180) (o + 2) (o + 1) n m WC L := hci.mv (fun z h1 h2 => ⟨rfl, fr9 z (by omega)⟩) rfl
        have fr15 : fr (fun z => o + 1 ≤ z ∧ z ≤ o + 246) M M4 := fun z hz => by
          have hz1 : ¬ (o + 1 ≤ z ∧ z ≤ o + 246) := hz
          exact (fr9 z (by omega))
        clear q7
        refine go_if_ne (tgt := 44) X d_CiteForge_run_33 rfl (by omega) (fun _ => ?_) (fun h9 => absurd h9 (by decide))
        refine go_aload_n X d_CiteForge_run_44 rfl rfl ?_
        refine go_get (v := vr (o + 225)) X f_CiteForge_57 q0 rfl d_CiteForge_run_45 (s_vref e13 (by omega)) ?_
        refine go_cVf (st2 := [vi 0]) (r := []) X k_CiteForge_185 (c_Machine_operationsDone l D pd12.1 fc11) hmc.1.1 rfl rfl (by omega) (Nat.le_of_ble_eq_true rfl) d_CiteForge_run_48 (by omega) (by omega) rfl ?_
        refine go_iret X d_CiteForge_run_51 rfl ?_ (by omega) (by omega) ?_
        · rfl
        exact ⟨if_pos (by omega), rfl, rfl, rfl, pd12, fr15⟩
      · skip
        refine go_throw X XX x_K_IA d_CiteForge_run_16 d_CiteForge_run_19 d_CiteForge_run_20 d_CiteForge_run_23 (by omega) (by omega) (by omega) ?_
        exact ⟨rfl, rfl, rfl, Or.inl ⟨rfl, if_neg (by omega)⟩⟩
set_option maxHeartbeats 4000000 in
set_option maxRecDepth 100000 in
theorem f_kind0 (l : Launch) (hl : l.stackTraces = false) (D : va_G) {sh : s_S} {M : s_M} {sz o : Int} (hc : cfx sh M o) {nk : Int} {fk : Int → sva} (hst : stv sh M (o + 183) (o + 1) nk fk) {WN : Int → Int} (hwn : sh (o + 1) = some (.inr (.int, 10))) (hWN : M (o + 1) = WN) {i : Int} (hi : -2147483648 ≤ i ∧ i < 2147483648) (hk0 : nk = 0) : SpX l D y_CiteForge_kind prog_1_method_15_code 2 (some .int) 8 1 6 [vr o, vi i] sh M sz (fun v' sh' M' sz' => ((1 : Int)) = 0 ∧ v' = some (vi 0) ∧ sh' = sh ∧ sz' = sz ∧ fr (fun z => o + 1 ≤ z ∧ z ≤ o + 246) M M') (fun E sh' M' sz' => sh' = sh ∧ M' = M ∧ sz' = sz + 1 ∧ ((E = "java/lang/IndexOutOfBoundsException" ∧ ((1 : Int)) = 1))) := by
  have q0 := hc.1
  have q8 : 0 ≤ o := hc.2.2.2.2.2.2.2.2
  have q5 := hc.2.2.2.2.2.1
  refine SpX.ofGo hl (own := "CiteForge") (nm := "kind") (by decide) rfl rfl (Nat.le_of_ble_eq_true rfl) (lv := [(0, vr o), (1, vi i)]) rfl ?_
  intro g X XX
  refine go_aload_n X d_CiteForge_kind_0 rfl rfl ?_
  refine go_get (v := vr (o + 183)) X f_CiteForge_41 q0 rfl d_CiteForge_kind_1 (s_vref q5 (by omega)) ?_
  refine go_iload_n X d_CiteForge_kind_4 rfl rfl ?_
  refine go_cVf (st2 := [vi (s_b (decide (0 ≤ i ∧ i < nk)))]) (r := []) X k_CiteForge_189 (c_Stack_has l D hst hWN (by omega)) hst.1 rfl rfl (by omega) (Nat.le_of_ble_eq_true rfl) d_CiteForge_kind_5 (by omega) (by omega) rfl ?_
  refine go_ifb_ne (tgt := 19) X d_CiteForge_kind_8 rfl (fun hq1 => ?_) (fun hq1 => ?_)
  · skip
    exfalso
    simp only [decide_eq_true_eq, decide_eq_false_iff_not] at hq1
    omega
  · skip
    refine go_throw X XX x_K_IOOB d_CiteForge_kind_11 d_CiteForge_kind_14 d_CiteForge_kind_15 d_CiteForge_kind_18 (by omega) (by omega) (by omega) ?_
    exact ⟨rfl, rfl, rfl, ⟨rfl, rfl⟩⟩
set_option maxHeartbeats 4000000 in
set_option maxRecDepth 100000 in
theorem f_value0 (l : Launch) (hl : l.stackTraces = false) (D : va_G) {sh : s_S} {M : s_M} {sz o : Int} (hc : cfx sh M o) {nk : Int} {fk : Int → sva} (hst : stv sh M (o + 183) (o + 1) nk fk) {WN : Int → Int} (hwn : sh (o + 1) = some (.inr (.int, 10))) (hWN : M (o + 1) = WN) {i : Int} (hi : -2147483648 ≤ i ∧ i < 2147483648) (hk0 : nk = 0) : SpX l D y_CiteForge_value prog_1_method_16_code 3 (some .int) 8 1 6 [vr o, vi i] sh M sz (fun v' sh' M' sz' => ((1 : Int)) = 0 ∧ v' = some (vi 0) ∧ sh' = sh ∧ sz' = sz ∧ fr (fun z => o + 1 ≤ z ∧ z ≤ o + 246) M M') (fun E sh' M' sz' => sh' = sh ∧ M' = M ∧ sz' = sz + 1 ∧ ((E = "java/lang/IndexOutOfBoundsException" ∧ ((1 : Int)) = 1))) := by
  have q0 := hc.1
  have q8 : 0 ≤ o := hc.2.2.2.2.2.2.2.2
  have q5 := hc.2.2.2.2.2.1
  refine SpX.ofGo hl (own := "CiteForge") (nm := "value") (by decide) rfl rfl (Nat.le_of_ble_eq_true rfl) (lv := [(0, vr o), (1, vi i)]) rfl ?_
  intro g X XX
  refine go_aload_n X d_CiteForge_value_0 rfl rfl ?_
  refine go_get (v := vr (o + 183)) X f_CiteForge_41 q0 rfl d_CiteForge_value_1 (s_vref q5 (by omega)) ?_
  refine go_iload_n X d_CiteForge_value_4 rfl rfl ?_
  refine go_cVf (st2 := [vi (s_b (decide (0 ≤ i ∧ i < nk)))]) (r := []) X k_CiteForge_189 (c_Stack_has l D hst hWN (by omega)) hst.1 rfl rfl (by omega) (Nat.le_of_ble_eq_true rfl) d_CiteForge_value_5 (by omega) (by omega) rfl ?_
  refine go_ifb_ne (tgt := 19) X d_CiteForge_value_8 rfl (fun hq1 => ?_) (fun hq1 => ?_)
  · skip
    exfalso
    simp only [decide_eq_true_eq, decide_eq_false_iff_not] at hq1
    omega
  · skip
    refine go_throw X XX x_K_IOOB d_CiteForge_value_11 d_CiteForge_value_14 d_CiteForge_value_15 d_CiteForge_value_18 (by omega) (by omega) (by omega) ?_
    exact ⟨rfl, rfl, rfl, ⟨rfl, rfl⟩⟩
set_option maxHeartbeats 4000000 in
set_option maxRecDepth 100000 in
theorem f_letter0 (l : Launch) (hl : l.stackTraces = false) (D : va_G) {sh : s_S} {M : s_M} {sz o : Int} (hc : cfx sh M o) {nk : Int} {fk : Int → sva} (hst : stv sh M (o + 183) (o + 1) nk fk) {WN : Int → Int} (hwn : sh (o + 1) = some (.inr (.int, 10))) (hWN : M (o + 1) = WN) {i j : Int} (hi : -2147483648 ≤ i ∧ i < 2147483648) (hk0 : nk = 0) : SpX l D y_CiteForge_letter prog_1_method_17_code 3 (some .int) 8 1 6 [vr o, vi i, vi j] sh M sz (fun v' sh' M' sz' => ((1 : Int)) = 0 ∧ v' = some (vi 0) ∧ sh' = sh ∧ sz' = sz ∧ fr (fun z => o + 1 ≤ z ∧ z ≤ o + 246) M M') (fun E sh' M' sz' => sh' = sh ∧ M' = M ∧ sz' = sz + 1 ∧ ((E = "java/lang/IndexOutOfBoundsException" ∧ ((1 : Int)) = 1))) := by
  have q0 := hc.1
  have q8 : 0 ≤ o := hc.2.2.2.2.2.2.2.2
  have q5 := hc.2.2.2.2.2.1
  refine SpX.ofGo hl (own := "CiteForge") (nm := "letter") (by decide) rfl rfl (Nat.le_of_ble_eq_true rfl) (lv := [(0, vr o), (1, vi i), (2, vi j)]) rfl ?_
  intro g X XX
  refine go_aload_n X d_CiteForge_letter_0 rfl rfl ?_
  refine go_get (v := vr (o + 183)) X f_CiteForge_41 q0 rfl d_CiteForge_letter_1 (s_vref q5 (by omega)) ?_
  refine go_iload_n X d_CiteForge_letter_4 rfl rfl ?_
  refine go_cVf (st2 := [vi (s_b (decide (0 ≤ i ∧ i < nk)))]) (r := []) X k_CiteForge_189 (c_Stack_has l D hst hWN (by omega)) hst.1 rfl rfl (by omega) (Nat.le_of_ble_eq_true rfl) d_CiteForge_letter_5 (by omega) (by omega) rfl ?_
  refine go_ifb_eq (tgt := 29) X d_CiteForge_letter_8 rfl (fun hq1 => ?_) (fun hq1 => ?_)
  · skip
    refine go_throw X XX x_K_IOOB d_CiteForge_letter_29 d_CiteForge_letter_32 d_CiteForge_letter_33 d_CiteForge_letter_36 (by omega) (by omega) (by omega) ?_
    exact ⟨rfl, rfl, rfl, ⟨rfl, rfl⟩⟩
  · skip
    exfalso
    simp only [decide_eq_true_eq, decide_eq_false_iff_not] at hq1
    omega
set_option maxHeartbeats 4000000 in
set_option maxRecDepth 100000 in
theorem f_empty (l : Launch) (D : va_G) {sh : s_S} {M : s_M} {sz o : Int} (hc : cfx sh M o) {nk : Int} {fk : Int → sva} (hst : stv sh M (o + 183) (o + 1) nk fk) {WN : Int → Int} (hwn : sh (o + 1) = some (.inr (.int, 10))) (hWN : M (o + 1) = WN)  : Sp l D y_CiteForge_empty prog_1_method_18_code 1 (some .int) 4 0 0 [vr o] sh M sz (fun v' sh' M' sz' => v' = some (vi nk) ∧ sh' = sh ∧ sz' = sz ∧ stv sh M' (o + 183) (o + 1) 0 fk ∧ M' (o + 1) = WN ∧ fr (fun z => o + 1 ≤ z ∧ z ≤ o + 246) M M') := by
  have q0 := hc.1
  have q8 : 0 ≤ o := hc.2.2.2.2.2.2.2.2
  have q5 := hc.2.2.2.2.2.1
  refine Sp.ofGo (own := "CiteForge") (nm := "empty") (by decide) rfl rfl (Nat.le_of_ble_eq_true rfl) (lv := [(0, vr o)]) rfl ?_
  intro g X
  refine go_aload_n X d_CiteForge_empty_0 rfl rfl ?_
  refine go_get (v := vr (o + 183)) X f_CiteForge_41 q0 rfl d_CiteForge_empty_1 (s_vref q5 (by omega)) ?_
  refine go_cV (st2 := []) (r := []) X k_CiteForge_208 (c_Stack_dropAll l D hst hWN) hst.1 rfl rfl (by omega) (Nat.le_of_ble_eq_true rfl) d_CiteForge_empty_4 (by omega) (by omega) (fun v' sh' M1 sz' hp2 => ?_)
  obtain ⟨e3, e4, e5, pd7, fc8, fr6⟩ := hp2
  subst e3
  rw [e4, e5]
  show Go g 0 0 sh M1 sz 7 [(0, vr o)] [vi nk]
  have e9 : M1 o 4 = o + 183 := (congrFun (fr6 o (by omega)) _).trans q5
  have fr10 : fr (fun z => o + 1 ≤ z ∧ z ≤ o + 246) M M1 := fun z hz => by
    have hz1 : ¬ (o + 1 ≤ z ∧ z ≤ o + 246) := hz
    exact (fr6 z (by omega))
  clear q5
  refine go_iret X d_CiteForge_empty_7 rfl ?_ (by omega) (by omega) ?_
  · rfl
  exact ⟨rfl, rfl, rfl, pd7, fc8, fr10⟩
set_option maxHeartbeats 4000000 in
set_option maxRecDepth 100000 in
theorem f_line0 (l : Launch) (hl : l.stackTraces = false) (D : va_G) {sh : s_S} {M : s_M} {sz o : Int} (hc : cfx sh M o) {np : Int} {tp : List Int} (hpg : pg0 sh M (o + 221) np tp) {i j : Int} (hi : -2147483648 ≤ i ∧ i < 2147483648) (hp0 : np = 0) : SpX l D y_CiteForge_line prog_1_method_19_code 3 (some .int) 8 1 6 [vr o, vi i, vi j] sh M sz (fun v' sh' M' sz' => ((1 : Int)) = 0 ∧ v' = some (vi 0) ∧ sh' = sh ∧ sz' = sz ∧ fr (fun z => o + 1 ≤ z ∧ z ≤ o + 246) M M') (fun E sh' M' sz' => sh' = sh ∧ M' = M ∧ sz' = sz + 1 ∧ ((E = "java/util/NoSuchElementException" ∧ ((1 : Int)) = 1) ∨ (E = "java/lang/IndexOutOfBoundsException" ∧ ((1 : Int)) = 2))) := by
  have q0 := hc.1
  have q8 : 0 ≤ o := hc.2.2.2.2.2.2.2.2
  have q6 := hc.2.2.2.2.2.2.1
  refine SpX.ofGo hl (own := "CiteForge") (nm := "line") (by decide) rfl rfl (Nat.le_of_ble_eq_true rfl) (lv := [(0, vr o), (1, vi i), (2, vi j)]) rfl ?_
  intro g X XX
  refine go_aload_n X d_CiteForge_line_0 rfl rfl ?_
  refine go_get (v := vr (o + 221)) X f_CiteForge_48 q0 rfl d_CiteForge_line_1 (s_vref q6 (by omega)) ?_
  refine go_iload_n X d_CiteForge_line_4 rfl rfl ?_
  refine go_cVf (st2 := [vi (s_b (decide (0 ≤ i ∧ i < np ∧ i < 24)))]) (r := []) X k_CiteForge_211 (c_Page_isKept l D hpg (by omega) (by omega)) hpg.1 rfl rfl (by omega) (Nat.le_of_ble_eq_true rfl) d_CiteForge_line_5 (by omega) (by omega) rfl ?_
  refine go_ifb_ne (tgt := 19) X d_CiteForge_line_8 rfl (fun hq1 => ?_) (fun hq1 => ?_)
  · skip
    exfalso
    simp only [decide_eq_true_eq, decide_eq_false_iff_not] at hq1
    omega
  · skip
    refine go_throw X XX x_K_NSE d_CiteForge_line_11 d_CiteForge_line_14 d_CiteForge_line_15 d_CiteForge_line_18 (by omega) (by omega) (by omega) ?_
    exact ⟨rfl, rfl, rfl, Or.inl ⟨rfl, rfl⟩⟩
def cok (i : Int) : Int := if 0 ≤ i ∧ i ≤ 4 then 0 else 1
def cov (i a b c d e : Int) : Int := if i = 0 then a else if i = 1 then b else if i = 2 then c else if i = 3 then d else e
/-- a number as an int has it -/
def wi32 (x : Int) : Int := (Int32.ofInt x).toInt
theorem wi32_vi (x : Int) : vi x = vi (wi32 x) := by
  show Value.int (Int32.ofInt x) = Value.int (Int32.ofInt (Int32.ofInt x).toInt)
  rw [Int32.ofInt_toInt]
theorem wi32_rng (x : Int) : -2147483648 ≤ wi32 x ∧ wi32 x < 2147483648 := ⟨Int32.le_toInt _, Int32.toInt_lt _⟩
def wak (i : Int) : Int := if 1 ≤ i ∧ i ≤ 9 then 0 else 1
set_option maxHeartbeats 4000000 in
set_option maxRecDepth 100000 in
theorem f_count (l : Launch) (hl : l.stackTraces = false) (D : va_G) {sh : s_S} {M : s_M} {sz o : Int} (hc : cfx sh M o) {ns : Int} {E : Int → sen} (hsh : shv sh M (o + 2) (o + 1) ns E) {n m : Int} {WC L : Int → Int} (hci : civ sh M (o + 180) (o + 2) (o + 1) n m WC L) {np : Int} {tp : List Int} (hpg : pg0 sh M (o + 221) np tp) {i : Int} (hi : -2147483648 ≤ i ∧ i < 2147483648) (hnp : np < 2147483648) : SpX l D y_CiteForge_count prog_1_method_20_code 2 (some .int) 8 1 6 [vr o, vi i] sh M sz (fun v' sh' M' sz' => (cok i) = 0 ∧ v' = some (vi (cov i ns m np (tp.length : Int) n)) ∧ sh' = sh ∧ sz' = sz ∧ fr (fun z => o + 1 ≤ z ∧ z ≤ o + 246) M M') (fun E sh' M' sz' => sh' = sh ∧ M' = M ∧ sz' = sz + 1 ∧ ((E = "java/lang/IndexOutOfBoundsException" ∧ (cok i) = 1))) := by
  have q0 := hc.1
  have q8 : 0 ≤ o := hc.2.2.2.2.2.2.2.2
  have q2 := hc.2.2.1
  have q4 := hc.2.2.2.2.1
  have q6 := hc.2.2.2.2.2.2.1
  refine SpX.ofGo hl (own := "CiteForge") (nm := "count") (by decide) rfl rfl (Nat.le_of_ble_eq_true rfl) (lv := [(0, vr o), (1, vi i)]) rfl ?_
  intro g X XX
  refine go_iload_n X d_CiteForge_count_0 rfl rfl ?_
  rcases (show (i < 0 ∨ 4 < i) ∨ i = 0 ∨ i = 1 ∨ i = 2 ∨ i = 3 ∨ i = 4 by omega) with ht1 | ht1 | ht1 | ht1 | ht1 | ht1
  · skip
    refine go_tabOut (tgt := 76) X d_CiteForge_count_1 (by omega) ht1 rfl ?_
    refine go_throw X XX x_K_IOOB d_CiteForge_count_76 d_CiteForge_count_79 d_CiteForge_count_80 d_CiteForge_count_83 (by omega) (by omega) (by omega) ?_
    exact ⟨rfl, rfl, rfl, ⟨rfl, if_neg (by omega)⟩⟩
  · skip
    refine go_tabIn (off := 35) (tgt := 36) X d_CiteForge_count_1 (by omega) (by omega) (by omega) (by rw [ht1]; rfl) rfl ?_
    refine go_aload_n X d_CiteForge_count_36 rfl rfl ?_
    refine go_get (v := vr (o + 2)) X f_CiteForge_18 q0 rfl d_CiteForge_count_37 (s_vref q2 (by omega)) ?_
    refine go_cVf (st2 := [vi ns]) (r := []) X k_CiteForge_99 (c_Shelf_size l D hsh) hsh.1 rfl rfl (by omega) (Nat.le_of_ble_eq_true rfl) d_CiteForge_count_40 (by omega) (by omega) rfl ?_
    refine go_iret X d_CiteForge_count_43 rfl ?_ (by omega) (by omega) ?_
    · rfl
    exact ⟨if_pos (by omega), by rw [ht1]; rfl, rfl, rfl, fun z _ => rfl⟩
  · skip
    refine go_tabIn (off := 43) (tgt := 44) X d_CiteForge_count_1 (by omega) (by omega) (by omega) (by rw [ht1]; rfl) rfl ?_
    refine go_aload_n X d_CiteForge_count_44 rfl rfl ?_
    refine go_get (v := vr (o + 180)) X f_CiteForge_34 q0 rfl d_CiteForge_count_45 (s_vref q4 (by omega)) ?_
    refine go_cVf (st2 := [vi m]) (r := []) X k_CiteForge_124 (c_Citations_listSize l D hci) hci.1 rfl rfl (by omega) (Nat.le_of_ble_eq_true rfl) d_CiteForge_count_48 (by omega) (by omega) rfl ?_
    refine go_iret X d_CiteForge_count_51 rfl ?_ (by omega) (by omega) ?_
    · rfl
    exact ⟨if_pos (by omega), by rw [ht1]; rfl, rfl, rfl, fun z _ => rfl⟩
  · skip
    refine go_tabIn (off := 51) (tgt := 52) X d_CiteForge_count_1 (by omega) (by omega) (by omega) (by rw [ht1]; rfl) rfl ?_
    refine go_aload_n X d_CiteForge_count_52 rfl rfl ?_
    refine go_get (v := vr (o + 221)) X f_CiteForge_48 q0 rfl d_CiteForge_count_53 (s_vref q6 (by omega)) ?_
    refine go_cVf (st2 := [vi np]) (r := []) X k_CiteForge_218 (c_Page_lineCount l D hpg) hpg.1 rfl rfl (by omega) (Nat.le_of_ble_eq_true rfl) d_CiteForge_count_56 (by omega) (by omega) rfl ?_
    refine go_iret X d_CiteForge_count_59 rfl ?_ (by omega) (by omega) ?_
    · rfl
    exact ⟨if_pos (by omega), by rw [ht1]; rfl, rfl, rfl, fun z _ => rfl⟩
  · skip
    refine go_tabIn (off := 59) (tgt := 60) X d_CiteForge_count_1 (by omega) (by omega) (by omega) (by rw [ht1]; rfl) rfl ?_
    refine go_aload_n X d_CiteForge_count_60 rfl rfl ?_
    refine go_get (v := vr (o + 221)) X f_CiteForge_48 q0 rfl d_CiteForge_count_61 (s_vref q6 (by omega)) ?_
    refine go_cVf (st2 := [vi (tp.length : Int)]) (r := []) X k_CiteForge_221 (c_Page_lengthAtHand l D hpg) hpg.1 rfl rfl (by omega) (Nat.le_of_ble_eq_true rfl) d_CiteForge_count_64 (by omega) (by omega) rfl ?_
    refine go_iret X d_CiteForge_count_67 rfl ?_ (by omega) (by omega) ?_
    · rfl
    exact ⟨if_pos (by omega), by rw [ht1]; rfl, rfl, rfl, fun z _ => rfl⟩
  · skip
    refine go_tabIn (off := 67) (tgt := 68) X d_CiteForge_count_1 (by omega) (by omega) (by omega) (by rw [ht1]; rfl) rfl ?_
    refine go_aload_n X d_CiteForge_count_68 rfl rfl ?_
    refine go_get (v := vr (o + 180)) X f_CiteForge_34 q0 rfl d_CiteForge_count_69 (s_vref q4 (by omega)) ?_
    refine go_cVf (st2 := [vi n]) (r := []) X k_CiteForge_224 (c_Citations_size l D hci) hci.1 rfl rfl (by omega) (Nat.le_of_ble_eq_true rfl) d_CiteForge_count_72 (by omega) (by omega) rfl ?_
    refine go_iret X d_CiteForge_count_75 rfl ?_ (by omega) (by omega) ?_
    · rfl
    exact ⟨if_pos (by omega), by rw [ht1]; rfl, rfl, rfl, fun z _ => rfl⟩
set_option maxHeartbeats 4000000 in
set_option maxRecDepth 100000 in
theorem f_warnings (l : Launch) (hl : l.stackTraces = false) (D : va_G) {sh : s_S} {M : s_M} {sz o : Int} (hc : cfx sh M o)  {WN : Int → Int} (hwn : sh (o + 1) = some (.inr (.int, 10))) (hWN : M (o + 1) = WN) {i : Int} (hi : -2147483648 ≤ i ∧ i < 2147483648) : SpX l D y_CiteForge_warnings prog_1_method_21_code 2 (some .int) 8 1 6 [vr o, vi i] sh M sz (fun v' sh' M' sz' => (wak i) = 0 ∧ v' = some (vi (wi32 (WN i))) ∧ sh' = sh ∧ sz' = sz ∧ fr (fun z => o + 1 ≤ z ∧ z ≤ o + 246) M M') (fun E sh' M' sz' => sh' = sh ∧ M' = M ∧ sz' = sz + 1 ∧ ((E = "java/lang/IndexOutOfBoundsException" ∧ (wak i) = 1))) := by
  have q0 := hc.1
  have q8 : 0 ≤ o := hc.2.2.2.2.2.2.2.2
  have q1 := hc.2.1
  refine SpX.ofGo hl (own := "CiteForge") (nm := "warnings") (by decide) rfl rfl (Nat.le_of_ble_eq_true rfl) (lv := [(0, vr o), (1, vi i)]) rfl ?_
  intro g X XX
  refine go_iload_n X d_CiteForge_warnings_0 rfl rfl ?_
  refine go_iconst (v := 1) X d_CiteForge_warnings_1 ?_
  refine go_icmp_lt (tgt := 11) X d_CiteForge_warnings_2 rfl (by omega) (by omega) (fun hq1 => ?_) (fun hq1 => ?_)
  · skip
    refine go_throw X XX x_K_IOOB d_CiteForge_warnings_11 d_CiteForge_warnings_14 d_CiteForge_warnings_15 d_CiteForge_warnings_18 (by omega) (by omega) (by omega) ?_
    exact ⟨rfl, rfl, rfl, ⟨rfl, if_neg (by omega)⟩⟩
  · skip
    refine go_iload_n X d_CiteForge_warnings_5 rfl rfl ?_
    refine go_bipush (v := 9) X d_CiteForge_warnings_6 (by decide) ?_
    refine go_icmp_le (tgt := 19) X d_CiteForge_warnings_8 rfl (by omega) (by omega) (fun hq2 => ?_) (fun hq2 => ?_)
    · skip
      refine go_aload_n X d_CiteForge_warnings_19 rfl rfl ?_
      refine go_get (v := vr (o + 1)) X f_CiteForge_9 q0 rfl d_CiteForge_warnings_20 (s_varr q1 (by omega)) ?_
      refine go_iload_n X d_CiteForge_warnings_23 rfl rfl ?_
      refine go_iald X hwn (by omega) (by omega) d_CiteForge_warnings_24 ?_
      refine go_top (v' := vi (WN i)) X (by rw [hWN]) ?_
      refine go_iret X d_CiteForge_warnings_25 rfl ?_ (by omega) (by omega) ?_
      · rfl
      exact ⟨if_pos (by omega), congrArg some (wi32_vi _), rfl, rfl, fun z _ => rfl⟩
    · skip
      refine go_throw X XX x_K_IOOB d_CiteForge_warnings_11 d_CiteForge_warnings_14 d_CiteForge_warnings_15 d_CiteForge_warnings_18 (by omega) (by omega) (by omega) ?_
      exact ⟨rfl, rfl, rfl, ⟨rfl, if_neg (by omega)⟩⟩
