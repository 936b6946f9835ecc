/-! The reference, behind its constructor. -/
def mds (sh : s_S) (M : s_M) (r : Int) : Prop := sh r = some (.inl (11, ts_Model)) ∧ 0 ≤ r ∧ ∀ (j : Nat) (q : m_A), mL[j]? = some q → sh (r + q.2.2.2) = some (.inr (q.1, q.2.1)) ∧ M r q.2.2.1 = r + q.2.2.2
theorem mks.mds {sh : s_S} {M : s_M} {r : Int} (h : mks sh M r mL) : mds sh M r := ⟨h.1, h.2.1, fun j q hq => ⟨(h.2.2.1 j q hq).2.1, (h.2.2.1 j q hq).2.2.2⟩⟩
theorem mds.off {sh : s_S} {M M' : s_M} {r : Int} (h : mds sh M r) (e : M' r = M r) : mds sh M' r := ⟨h.1, h.2.1, fun j q hq => ⟨(h.2.2 j q hq).1, by rw [e]; exact (h.2.2 j q hq).2⟩⟩
theorem mds.put {sh : s_S} {M : s_M} {r f v : Int} (h : mds sh M r) (hf : mL.all (fun q => q.2.2.1 != f) = true) : mds sh (m_s M r f v) r := ⟨h.1, h.2.1, fun j q hq => ⟨(h.2.2 j q hq).1, by
  have h1 := List.all_eq_true.mp hf q (List.mem_of_getElem? hq)
  rw [m_s_n (fun e => by rw [e.2] at h1; simp at h1)]
  exact (h.2.2 j q hq).2⟩⟩
theorem mds.mv {sh sh' : s_S} {M M' : s_M} {r : Int} (h : mds sh M r) (hu : as_ r (r + 29) sh M sh' M') : mds sh' M' r := by
  have hoff : mL.all (fun q => decide (1 ≤ q.2.2.2) && decide (q.2.2.2 ≤ 28)) = true := by decide
  refine ⟨by rw [(hu r (by omega) (by omega)).1]; exact h.1, h.2.1, fun j q hq => ?_⟩
  have h1 := List.all_eq_true.mp hoff q (List.mem_of_getElem? hq)
  simp only [Bool.and_eq_true, decide_eq_true_eq] at h1
  exact ⟨by rw [(hu (r + q.2.2.2) (by omega) (by omega)).1]; exact (h.2.2 j q hq).1, by rw [(hu r (by omega) (by omega)).2]; exact (h.2.2 j q hq).2⟩
/-- a new reference: all numbers are 0 -/
theorem mks.zero {sh : s_S} {M : s_M} {r f : Int} (h : mks sh M r mL) (hf : mL.all (fun q => q.2.2.1 != f) = true) (h0 : m_f0 f = 0) : M r f = 0 := by
  rw [h.2.2.2 f (fun q hq e => by have h1 := List.all_eq_true.mp hf q hq; rw [e] at h1; simp at h1)]
  exact h0
set_option maxHeartbeats 4000000 in
set_option maxRecDepth 100000 in
theorem m_fail (l : Launch) (D : va_G) {sh : s_S} {M : s_M} {sz r : Int} (h : mds sh M r) {c : Int} : Sp l D y_Model_fail prog_14_method_3_code 2 (some .int) 1 0 0 [vr r, vi c] sh M sz (pF (some (vi 0)) sh (m_s M r 0 c) sz) := by
  have hr0 := h.2.1
  refine Sp.ofGo (own := "CiteForgeModel") (nm := "fail") (by decide) rfl rfl (Nat.le_of_ble_eq_true rfl) (lv := [(0, vr r), (1, vi c)]) rfl ?_
  intro g X
  refine go_aload_n X d_Model_fail_0 rfl rfl ?_
  refine go_iload_n X d_Model_fail_1 rfl rfl ?_
  refine go_put (x := c) (v := vi c) X f_Model_95 h.1 rfl d_Model_fail_2 rfl rfl rfl ?_
  generalize hM2 : m_s M r 0 c = M1
  have e3 : M1 r 0 = c := by rw [← hM2, m_s_s]
  have md4 : mds sh M1 r := by rw [← hM2]; exact h.put (by decide)
  refine go_iconst (v := 0) X d_Model_fail_5 ?_
  refine go_iret X d_Model_fail_6 rfl ?_ (by omega) (by omega) ?_
  · rfl
  · exact ⟨rfl, rfl, hM2.symm, rfl⟩
set_option maxHeartbeats 4000000 in
set_option maxRecDepth 100000 in
theorem m_thrown (l : Launch) (D : va_G) {sh : s_S} {M : s_M} {sz r c : Int} (h : sh r = some (.inl (11, ts_Model))) (ht : M r 0 = c) : Sp l D y_Model_thrown prog_14_method_2_code 1 (some .int) 1 0 0 [vr r] sh M sz (pF (some (vi c)) sh M sz) := by
  refine Sp.ofGo (own := "CiteForgeModel") (nm := "thrown") (by decide) rfl rfl (Nat.le_of_ble_eq_true rfl) (lv := [(0, vr r)]) rfl ?_
  intro g X
  refine go_aload_n X d_Model_thrown_0 rfl rfl ?_
  refine go_get (v := vi c) X f_Model_95 h rfl d_Model_thrown_1 (congrArg (s_v .int) ht) ?_
  refine go_iret X d_Model_thrown_4 rfl ?_ (by omega) (by omega) ?_
  · rfl
  · exact ⟨rfl, rfl, rfl, rfl⟩
set_option maxHeartbeats 4000000 in
set_option maxRecDepth 100000 in
theorem m_erase (l : Launch) (D : va_G) {sh : s_S} {M : s_M} {sz r : Int} (h : mds sh M r) {n : Int} (hn : -2147483648 ≤ n ∧ n < 2147483648) (hl : M r 2 = n) : Sp l D y_Model_erase prog_14_method_19_code 2 (some .int) 1 0 0 [vr r] sh M sz (fun v' sh' M' sz' => ∃ b : Int, v' = some (vi b) ∧ (((0 : Int)) = 0 → b = n) ∧ (-2147483648 ≤ b ∧ b < 2147483648) ∧ sh' = sh ∧ sz' = sz ∧ M' r 0 = (0 : Int) ∧ mds sh M' r ∧ fr (fun z => r ≤ z ∧ z ≤ r + 28) M M') := by
  have hr0 := h.2.1
  refine Sp.ofGo (own := "CiteForgeModel") (nm := "erase") (by decide) rfl rfl (Nat.le_of_ble_eq_true rfl) (lv := [(0, vr r)]) rfl ?_
  intro g X
  refine go_aload_n X d_Model_erase_0 rfl rfl ?_
  refine go_iconst (v := 0) X d_Model_erase_1 ?_
  refine go_put (x := 0) (v := vi 0) X f_Model_95 h.1 rfl d_Model_erase_2 rfl rfl rfl ?_
  generalize hM2 : m_s M r 0 0 = M1
  have e3 : M1 r 2 = n := by rw [← hM2]; exact (m_s_n (fun q => absurd q.2 (by decide))).trans hl
  have e4 : M1 r 0 = 0 := by rw [← hM2, m_s_s]
  have fr5 : fr (fun z => r ≤ z ∧ z ≤ r + 28) M M1 := fun z hz => by
    have hz1 : ¬ (r ≤ z ∧ z ≤ r + 28) := hz
    rw [← hM2]; exact (m_s_a (by omega))
  have md6 : mds sh M1 r := by rw [← hM2]; exact h.put (by decide)
  refine go_aload_n X d_Model_erase_5 rfl rfl ?_
  refine go_get (v := vi n) X f_Model_131 h.1 rfl d_Model_erase_6 (congrArg (s_v .int) e3) ?_
  refine go_istore_n (lv' := [(1, vi n), (0, vr r)]) X d_Model_erase_9 rfl (by decide) rfl ?_
  refine go_aload_n X d_Model_erase_10 rfl rfl ?_
  refine go_iconst (v := 0) X d_Model_erase_11 ?_
  refine go_put (x := 0) (v := vi 0) X f_Model_131 h.1 rfl d_Model_erase_12 rfl rfl rfl ?_
  generalize hM8 : m_s M1 r 2 0 = M7
  have e9 : M7 r 0 = 0 := by rw [← hM8]; exact (m_s_n (fun q => absurd q.2 (by decide))).trans e4
  have e10 : M7 r 2 = 0 := by rw [← hM8, m_s_s]
  have fr11 : fr (fun z => r ≤ z ∧ z ≤ r + 28) M M7 := fun z hz => by
    have hz1 : ¬ (r ≤ z ∧ z ≤ r + 28) := hz
    rw [← hM8]; exact (m_s_a (by omega)).trans (fr5 z hz)
  clear e3 e4 fr5
  have md12 : mds sh M7 r := by rw [← hM8]; exact md6.put (by decide)
  refine go_iload_n X d_Model_erase_15 rfl rfl ?_
  refine go_iret X d_Model_erase_16 rfl ?_ (by omega) (by omega) ?_
  · rfl
  exact ⟨n, rfl, fun _ => rfl, (by omega), rfl, rfl, e9.trans rfl.symm, md12, fr11⟩
set_option maxHeartbeats 4000000 in
set_option maxRecDepth 100000 in
theorem m_forget (l : Launch) (D : va_G) {sh : s_S} {M : s_M} {sz r : Int} (h : mds sh M r) {n : Int} (hn : -2147483648 ≤ n ∧ n < 2147483648) (hl : M r 13 = n) : Sp l D y_Model_forget prog_14_method_38_code 2 (some .int) 1 0 0 [vr r] sh M sz (fun v' sh' M' sz' => ∃ b : Int, v' = some (vi b) ∧ (((0 : Int)) = 0 → b = n) ∧ (-2147483648 ≤ b ∧ b < 2147483648) ∧ sh' = sh ∧ sz' = sz ∧ M' r 0 = (0 : Int) ∧ mds sh M' r ∧ fr (fun z => r ≤ z ∧ z ≤ r + 28) M M') := by
  have hr0 := h.2.1
  refine Sp.ofGo (own := "CiteForgeModel") (nm := "forget") (by decide) rfl rfl (Nat.le_of_ble_eq_true rfl) (lv := [(0, vr r)]) rfl ?_
  intro g X
  refine go_aload_n X d_Model_forget_0 rfl rfl ?_
  refine go_iconst (v := 0) X d_Model_forget_1 ?_
  refine go_put (x := 0) (v := vi 0) X f_Model_95 h.1 rfl d_Model_forget_2 rfl rfl rfl ?_
  generalize hM2 : m_s M r 0 0 = M1
  have e3 : M1 r 13 = n := by rw [← hM2]; exact (m_s_n (fun q => absurd q.2 (by decide))).trans hl
  have e4 : M1 r 0 = 0 := by rw [← hM2, m_s_s]
  have fr5 : fr (fun z => r ≤ z ∧ z ≤ r + 28) M M1 := fun z hz => by
    have hz1 : ¬ (r ≤ z ∧ z ≤ r + 28) := hz
    rw [← hM2]; exact (m_s_a (by omega))
  have md6 : mds sh M1 r := by rw [← hM2]; exact h.put (by decide)
  refine go_aload_n X d_Model_forget_5 rfl rfl ?_
  refine go_get (v := vi n) X f_Model_228 h.1 rfl d_Model_forget_6 (congrArg (s_v .int) e3) ?_
  refine go_istore_n (lv' := [(1, vi n), (0, vr r)]) X d_Model_forget_9 rfl (by decide) rfl ?_
  refine go_aload_n X d_Model_forget_10 rfl rfl ?_
  refine go_iconst (v := 0) X d_Model_forget_11 ?_
  refine go_put (x := 0) (v := vi 0) X f_Model_228 h.1 rfl d_Model_forget_12 rfl rfl rfl ?_
  generalize hM8 : m_s M1 r 13 0 = M7
  have e9 : M7 r 0 = 0 := by rw [← hM8]; exact (m_s_n (fun q => absurd q.2 (by decide))).trans e4
  have e10 : M7 r 13 = 0 := by rw [← hM8, m_s_s]
  have fr11 : fr (fun z => r ≤ z ∧ z ≤ r + 28) M M7 := fun z hz => by
    have hz1 : ¬ (r ≤ z ∧ z ≤ r + 28) := hz
    rw [← hM8]; exact (m_s_a (by omega)).trans (fr5 z hz)
  clear e3 e4 fr5
  have md12 : mds sh M7 r := by rw [← hM8]; exact md6.put (by decide)
  refine go_iload_n X d_Model_forget_15 rfl rfl ?_
  refine go_iret X d_Model_forget_16 rfl ?_ (by omega) (by omega) ?_
  · rfl
  exact ⟨n, rfl, fun _ => rfl, (by omega), rfl, rfl, e9.trans rfl.symm, md12, fr11⟩
set_option maxHeartbeats 4000000 in
set_option maxRecDepth 100000 in
theorem m_depth (l : Launch) (D : va_G) {sh : s_S} {M : s_M} {sz r : Int} (h : mds sh M r) {n : Int} (hn : -2147483648 ≤ n ∧ n < 2147483648) (hl : M r 26 = n) : Sp l D y_Model_depth prog_14_method_88_code 1 (some .int) 1 0 0 [vr r] sh M sz (fun v' sh' M' sz' => ∃ b : Int, v' = some (vi b) ∧ (((0 : Int)) = 0 → b = n) ∧ (-2147483648 ≤ b ∧ b < 2147483648) ∧ sh' = sh ∧ sz' = sz ∧ M' r 0 = (0 : Int) ∧ mds sh M' r ∧ fr (fun z => r ≤ z ∧ z ≤ r + 28) M M') := by
  have hr0 := h.2.1
  refine Sp.ofGo (own := "CiteForgeModel") (nm := "depth") (by decide) rfl rfl (Nat.le_of_ble_eq_true rfl) (lv := [(0, vr r)]) rfl ?_
  intro g X
  refine go_aload_n X d_Model_depth_0 rfl rfl ?_
  refine go_iconst (v := 0) X d_Model_depth_1 ?_
  refine go_put (x := 0) (v := vi 0) X f_Model_95 h.1 rfl d_Model_depth_2 rfl rfl rfl ?_
  generalize hM2 : m_s M r 0 0 = M1
  have e3 : M1 r 26 = n := by rw [← hM2]; exact (m_s_n (fun q => absurd q.2 (by decide))).trans hl
  have e4 : M1 r 0 = 0 := by rw [← hM2, m_s_s]
  have fr5 : fr (fun z => r ≤ z ∧ z ≤ r + 28) M M1 := fun z hz => by
    have hz1 : ¬ (r ≤ z ∧ z ≤ r + 28) := hz
    rw [← hM2]; exact (m_s_a (by omega))
  have md6 : mds sh M1 r := by rw [← hM2]; exact h.put (by decide)
  refine go_aload_n X d_Model_depth_5 rfl rfl ?_
  refine go_get (v := vi n) X f_Model_250 h.1 rfl d_Model_depth_6 (congrArg (s_v .int) e3) ?_
  refine go_iret X d_Model_depth_9 rfl ?_ (by omega) (by omega) ?_
  · rfl
  exact ⟨n, rfl, fun _ => rfl, (by omega), rfl, rfl, e4.trans rfl.symm, md6, fr5⟩
set_option maxHeartbeats 4000000 in
set_option maxRecDepth 100000 in
theorem m_empty (l : Launch) (D : va_G) {sh : s_S} {M : s_M} {sz r : Int} (h : mds sh M r) {n : Int} (hn : -2147483648 ≤ n ∧ n < 2147483648) (hl : M r 26 = n) : Sp l D y_Model_empty prog_14_method_93_code 2 (some .int) 1 0 0 [vr r] sh M sz (fun v' sh' M' sz' => ∃ b : Int, v' = some (vi b) ∧ (((0 : Int)) = 0 → b = n) ∧ (-2147483648 ≤ b ∧ b < 2147483648) ∧ sh' = sh ∧ sz' = sz ∧ M' r 0 = (0 : Int) ∧ mds sh M' r ∧ fr (fun z => r ≤ z ∧ z ≤ r + 28) M M') := by
  have hr0 := h.2.1
  refine Sp.ofGo (own := "CiteForgeModel") (nm := "empty") (by decide) rfl rfl (Nat.le_of_ble_eq_true rfl) (lv := [(0, vr r)]) rfl ?_
  intro g X
  refine go_aload_n X d_Model_empty_0 rfl rfl ?_
  refine go_iconst (v := 0) X d_Model_empty_1 ?_
  refine go_put (x := 0) (v := vi 0) X f_Model_95 h.1 rfl d_Model_empty_2 rfl rfl rfl ?_
  generalize hM2 : m_s M r 0 0 = M1
  have e3 : M1 r 26 = n := by rw [← hM2]; exact (m_s_n (fun q => absurd q.2 (by decide))).trans hl
  have e4 : M1 r 0 = 0 := by rw [← hM2, m_s_s]
  have fr5 : fr (fun z => r ≤ z ∧ z ≤ r + 28) M M1 := fun z hz => by
    have hz1 : ¬ (r ≤ z ∧ z ≤ r + 28) := hz
    rw [← hM2]; exact (m_s_a (by omega))
  have md6 : mds sh M1 r := by rw [← hM2]; exact h.put (by decide)
  refine go_aload_n X d_Model_empty_5 rfl rfl ?_
  refine go_get (v := vi n) X f_Model_250 h.1 rfl d_Model_empty_6 (congrArg (s_v .int) e3) ?_
  refine go_istore_n (lv' := [(1, vi n), (0, vr r)]) X d_Model_empty_9 rfl (by decide) rfl ?_
  refine go_aload_n X d_Model_empty_10 rfl rfl ?_
  refine go_iconst (v := 0) X d_Model_empty_11 ?_
  refine go_put (x := 0) (v := vi 0) X f_Model_250 h.1 rfl d_Model_empty_12 rfl rfl rfl ?_
  generalize hM8 : m_s M1 r 26 0 = M7
  have e9 : M7 r 0 = 0 := by rw [← hM8]; exact (m_s_n (fun q => absurd q.2 (by decide))).trans e4
  have e10 : M7 r 26 = 0 := by rw [← hM8, m_s_s]
  have fr11 : fr (fun z => r ≤ z ∧ z ≤ r + 28) M M7 := fun z hz => by
    have hz1 : ¬ (r ≤ z ∧ z ≤ r + 28) := hz
    rw [← hM8]; exact (m_s_a (by omega)).trans (fr5 z hz)
  clear e3 e4 fr5
  have md12 : mds sh M7 r := by rw [← hM8]; exact md6.put (by decide)
  refine go_iload_n X d_Model_empty_15 rfl rfl ?_
  refine go_iret X d_Model_empty_16 rfl ?_ (by omega) (by omega) ?_
  · rfl
  exact ⟨n, rfl, fun _ => rfl, (by omega), rfl, rfl, e9.trans rfl.symm, md12, fr11⟩
set_option maxHeartbeats 4000000 in
set_option maxRecDepth 100000 in
theorem m_read0 (l : Launch) (D : va_G) {sh : s_S} {M : s_M} {sz r : Int} (h : mds sh M r) (hl : M r 2 = 0) : Sp l D y_Model_read prog_14_method_36_code 4 (some .int) 1 0 0 [vr r] sh M sz (fun v' sh' M' sz' => ∃ b : Int, v' = some (vi b) ∧ (((0 : Int)) = 0 → b = 0) ∧ (-2147483648 ≤ b ∧ b < 2147483648) ∧ sh' = sh ∧ sz' = sz ∧ M' r 0 = (0 : Int) ∧ mds sh M' r ∧ fr (fun z => r ≤ z ∧ z ≤ r + 28) M M') := by
  have hr0 := h.2.1
  refine Sp.ofGo (own := "CiteForgeModel") (nm := "read") (by decide) rfl rfl (Nat.le_of_ble_eq_true rfl) (lv := [(0, vr r)]) rfl ?_
  intro g X
  refine go_aload_n X d_Model_read_0 rfl rfl ?_
  refine go_iconst (v := 0) X d_Model_read_1 ?_
  refine go_put (x := 0) (v := vi 0) X f_Model_95 h.1 rfl d_Model_read_2 rfl rfl rfl ?_
  generalize hM2 : m_s M r 0 0 = M1
  have e3 : M1 r 2 = 0 := by rw [← hM2]; exact (m_s_n (fun q => absurd q.2 (by decide))).trans hl
  have e4 : M1 r 0 = 0 := by rw [← hM2, m_s_s]
  have fr5 : fr (fun z => r ≤ z ∧ z ≤ r + 28) M M1 := fun z hz => by
    have hz1 : ¬ (r ≤ z ∧ z ≤ r + 28) := hz
    rw [← hM2]; exact (m_s_a (by omega))
  have md6 : mds sh M1 r := by rw [← hM2]; exact h.put (by decide)
  refine go_aload_n X d_Model_read_5 rfl rfl ?_
  refine go_iconst (v := 0) X d_Model_read_6 ?_
  refine go_put (x := 0) (v := vi 0) X f_Model_201 h.1 rfl d_Model_read_7 rfl rfl rfl ?_
  generalize hM8 : m_s M1 r 6 0 = M7
  have e9 : M7 r 2 = 0 := by rw [← hM8]; exact (m_s_n (fun q => absurd q.2 (by decide))).trans e3
  have e10 : M7 r 0 = 0 := by rw [← hM8]; exact (m_s_n (fun q => absurd q.2 (by decide))).trans e4
  have e11 : M7 r 6 = 0 := by rw [← hM8, m_s_s]
  have fr12 : fr (fun z => r ≤ z ∧ z ≤ r + 28) M M7 := fun z hz => by
    have hz1 : ¬ (r ≤ z ∧ z ≤ r + 28) := hz
    rw [← hM8]; exact (m_s_a (by omega)).trans (fr5 z hz)
  clear e3 e4 fr5
  have md13 : mds sh M7 r := by rw [← hM8]; exact md6.put (by decide)
  refine go_aload_n X d_Model_read_10 rfl rfl ?_
  refine go_iconst (v := 0) X d_Model_read_11 ?_
  refine go_put (x := 0) (v := vi 0) X f_Model_165 h.1 rfl d_Model_read_12 rfl rfl rfl ?_
  generalize hM15 : m_s M7 r 11 0 = M14
  have e16 : M14 r 2 = 0 := by rw [← hM15]; exact (m_s_n (fun q => absurd q.2 (by decide))).trans e9
  have e17 : M14 r 0 = 0 := by rw [← hM15]; exact (m_s_n (fun q => absurd q.2 (by decide))).trans e10
  have e18 : M14 r 6 = 0 := by rw [← hM15]; exact (m_s_n (fun q => absurd q.2 (by decide))).trans e11
  have e19 : M14 r 11 = 0 := by rw [← hM15, m_s_s]
  have fr20 : fr (fun z => r ≤ z ∧ z ≤ r + 28) M M14 := fun z hz => by
    have hz1 : ¬ (r ≤ z ∧ z ≤ r + 28) := hz
    rw [← hM15]; exact (m_s_a (by omega)).trans (fr12 z hz)
  clear e10 e11 e9 fr12
  have md21 : mds sh M14 r := by rw [← hM15]; exact md13.put (by decide)
  refine go_aload_n X d_Model_read_15 rfl rfl ?_
  refine go_iconst (v := 0) X d_Model_read_16 ?_
  refine go_put (x := 0) (v := vi 0) X f_Model_210 h.1 rfl d_Model_read_17 rfl rfl rfl ?_
  generalize hM23 : m_s M14 r 15 0 = M22
  have e24 : M22 r 2 = 0 := by rw [← hM23]; exact (m_s_n (fun q => absurd q.2 (by decide))).trans e16
  have e25 : M22 r 0 = 0 := by rw [← hM23]; exact (m_s_n (fun q => absurd q.2 (by decide))).trans e17
  have e26 : M22 r 6 = 0 := by rw [← hM23]; exact (m_s_n (fun q => absurd q.2 (by decide))).trans e18
  have e27 : M22 r 11 = 0 := by rw [← hM23]; exact (m_s_n (fun q => absurd q.2 (by decide))).trans e19
  have e28 : M22 r 15 = 0 := by rw [← hM23, m_s_s]
  have fr29 : fr (fun z => r ≤ z ∧ z ≤ r + 28) M M22 := fun z hz => by
    have hz1 : ¬ (r ≤ z ∧ z ≤ r + 28) := hz
    rw [← hM23]; exact (m_s_a (by omega)).trans (fr20 z hz)
  clear e16 e17 e18 e19 fr20
  have md30 : mds sh M22 r := by rw [← hM23]; exact md21.put (by decide)
  refine go_aload_n X d_Model_read_20 rfl rfl ?_
  refine go_iconst (v := 0) X d_Model_read_21 ?_
  refine go_put (x := 0) (v := vi 0) X f_Model_134 h.1 rfl d_Model_read_22 rfl rfl rfl ?_
  generalize hM32 : m_s M22 r 17 0 = M31
  have e33 : M31 r 2 = 0 := by rw [← hM32]; exact (m_s_n (fun q => absurd q.2 (by decide))).trans e24
  have e34 : M31 r 0 = 0 := by rw [← hM32]; exact (m_s_n (fun q => absurd q.2 (by decide))).trans e25
  have e35 : M31 r 6 = 0 := by rw [← hM32]; exact (m_s_n (fun q => absurd q.2 (by decide))).trans e26
  have e36 : M31 r 11 = 0 := by rw [← hM32]; exact (m_s_n (fun q => absurd q.2 (by decide))).trans e27
  have e37 : M31 r 15 = 0 := by rw [← hM32]; exact (m_s_n (fun q => absurd q.2 (by decide))).trans e28
  have e38 : M31 r 17 = 0 := by rw [← hM32, m_s_s]
  have fr39 : fr (fun z => r ≤ z ∧ z ≤ r + 28) M M31 := fun z hz => by
    have hz1 : ¬ (r ≤ z ∧ z ≤ r + 28) := hz
    rw [← hM32]; exact (m_s_a (by omega)).trans (fr29 z hz)
  clear e24 e25 e26 e27 e28 fr29
  have md40 : mds sh M31 r := by rw [← hM32]; exact md30.put (by decide)
  refine go_aload_n X d_Model_read_25 rfl rfl ?_
  refine go_iconst (v := 0) X d_Model_read_26 ?_
  refine go_put (x := 0) (v := vi 0) X f_Model_147 h.1 rfl d_Model_read_27 rfl rfl rfl ?_
  generalize hM42 : m_s M31 r 21 0 = M41
  have e43 : M41 r 2 = 0 := by rw [← hM42]; exact (m_s_n (fun q => absurd q.2 (by decide))).trans e33
  have e44 : M41 r 0 = 0 := by rw [← hM42]; exact (m_s_n (fun q => absurd q.2 (by decide))).trans e34
  have e45 : M41 r 6 = 0 := by rw [← hM42]; exact (m_s_n (fun q => absurd q.2 (by decide))).trans e35
  have e46 : M41 r 11 = 0 := by rw [← hM42]; exact (m_s_n (fun q => absurd q.2 (by decide))).trans e36
  have e47 : M41 r 15 = 0 := by rw [← hM42]; exact (m_s_n (fun q => absurd q.2 (by decide))).trans e37
  have e48 : M41 r 17 = 0 := by rw [← hM42]; exact (m_s_n (fun q => absurd q.2 (by decide))).trans e38
  have e49 : M41 r 21 = 0 := by rw [← hM42, m_s_s]
  have fr50 : fr (fun z => r ≤ z ∧ z ≤ r + 28) M M41 := fun z hz => by
    have hz1 : ¬ (r ≤ z ∧ z ≤ r + 28) := hz
    rw [← hM42]; exact (m_s_a (by omega)).trans (fr39 z hz)
  clear e33 e34 e35 e36 e37 e38 fr39
  have md51 : mds sh M41 r := by rw [← hM42]; exact md40.put (by decide)
  refine go_aload_n X d_Model_read_30 rfl rfl ?_
  refine go_get (v := vi 0) X f_Model_134 h.1 rfl d_Model_read_31 (congrArg (s_v .int) e48) ?_
  refine go_aload_n X d_Model_read_34 rfl rfl ?_
  refine go_get (v := vi 0) X f_Model_131 h.1 rfl d_Model_read_35 (congrArg (s_v .int) e43) ?_
  refine go_icmp_ge (tgt := 145) X d_Model_read_38 rfl (by omega) (by omega) (fun _ => ?_) (fun h9 => absurd h9 (by decide))
  refine go_aload_n X d_Model_read_145 rfl rfl ?_
  refine go_get (v := vi 0) X f_Model_201 h.1 rfl d_Model_read_146 (congrArg (s_v .int) e45) ?_
  refine go_iret X d_Model_read_149 rfl ?_ (by omega) (by omega) ?_
  · rfl
  exact ⟨0, rfl, fun _ => rfl, (by omega), rfl, rfl, e44.trans rfl.symm, md51, fr50⟩
set_option maxHeartbeats 4000000 in
set_option maxRecDepth 100000 in
theorem m_sort0 (l : Launch) (D : va_G) {sh : s_S} {M : s_M} {sz r : Int} (h : mds sh M r) (hl : M r 15 = 0) : Sp l D y_Model_sort prog_14_method_44_code 5 (some .boolean) 1 0 0 [vr r] sh M sz (fun v' sh' M' sz' => ∃ b : Int, v' = some (vi b) ∧ (((0 : Int)) = 0 → b = 0) ∧ (-2147483648 ≤ b ∧ b < 2147483648) ∧ sh' = sh ∧ sz' = sz ∧ M' r 0 = (0 : Int) ∧ mds sh M' r ∧ fr (fun z => r ≤ z ∧ z ≤ r + 28) M M') := by
  have hr0 := h.2.1
  refine Sp.ofGo (own := "CiteForgeModel") (nm := "sort") (by decide) rfl rfl (Nat.le_of_ble_eq_true rfl) (lv := [(0, vr r)]) rfl ?_
  intro g X
  refine go_aload_n X d_Model_sort_0 rfl rfl ?_
  refine go_iconst (v := 0) X d_Model_sort_1 ?_
  refine go_put (x := 0) (v := vi 0) X f_Model_95 h.1 rfl d_Model_sort_2 rfl rfl rfl ?_
  generalize hM2 : m_s M r 0 0 = M1
  have e3 : M1 r 15 = 0 := by rw [← hM2]; exact (m_s_n (fun q => absurd q.2 (by decide))).trans hl
  have e4 : M1 r 0 = 0 := by rw [← hM2, m_s_s]
  have fr5 : fr (fun z => r ≤ z ∧ z ≤ r + 28) M M1 := fun z hz => by
    have hz1 : ¬ (r ≤ z ∧ z ≤ r + 28) := hz
    rw [← hM2]; exact (m_s_a (by omega))
  have md6 : mds sh M1 r := by rw [← hM2]; exact h.put (by decide)
  refine go_iconst (v := 0) X d_Model_sort_5 ?_
  refine go_istore_n (lv' := [(1, vi 0), (0, vr r)]) X d_Model_sort_6 rfl (by decide) rfl ?_
  refine go_iconst (v := 1) X d_Model_sort_7 ?_
  refine go_istore_n (lv' := [(2, vi 1), (1, vi 0), (0, vr r)]) X d_Model_sort_8 rfl (by decide) rfl ?_
  refine go_iload_n X d_Model_sort_9 rfl rfl ?_
  refine go_aload_n X d_Model_sort_10 rfl rfl ?_
  refine go_get (v := vi 0) X f_Model_210 h.1 rfl d_Model_sort_11 (congrArg (s_v .int) e3) ?_
  refine go_icmp_ge (tgt := 96) X d_Model_sort_14 rfl (by omega) (by omega) (fun _ => ?_) (fun h9 => absurd h9 (by decide))
  refine go_iload_n X d_Model_sort_96 rfl rfl ?_
  refine go_iret X d_Model_sort_97 rfl ?_ (by omega) (by omega) ?_
  · rfl
  exact ⟨0, rfl, fun _ => rfl, (by omega), rfl, rfl, e4.trans rfl.symm, md6, fr5⟩
set_option maxHeartbeats 4000000 in
set_option maxRecDepth 100000 in
theorem m_key0 (l : Launch) (D : va_G) {sh : s_S} {M : s_M} {sz r : Int} (h : mds sh M r) {i : Int} (hi : -2147483648 ≤ i ∧ i < 2147483648) (hl : M r 15 = 0) : Sp l D y_Model_key prog_14_method_42_code 2 (some .long) 2 0 0 [vr r, vi i] sh M sz (fun v' sh' M' sz' => ∃ b : Int, v' = some (vl b) ∧ (((1 : Int)) = 0 → b = 0) ∧ (-2147483648 ≤ b ∧ b < 2147483648) ∧ sh' = sh ∧ sz' = sz ∧ M' r 0 = (1 : Int) ∧ mds sh M' r ∧ fr (fun z => r ≤ z ∧ z ≤ r + 28) M M') := by
  have hr0 := h.2.1
  refine Sp.ofGo (own := "CiteForgeModel") (nm := "key") (by decide) rfl rfl (Nat.le_of_ble_eq_true rfl) (lv := [(0, vr r), (1, vi i)]) rfl ?_
  intro g X
  refine go_aload_n X d_Model_key_0 rfl rfl ?_
  refine go_iconst (v := 0) X d_Model_key_1 ?_
  refine go_put (x := 0) (v := vi 0) X f_Model_95 h.1 rfl d_Model_key_2 rfl rfl rfl ?_
  generalize hM2 : m_s M r 0 0 = M1
  have e3 : M1 r 15 = 0 := by rw [← hM2]; exact (m_s_n (fun q => absurd q.2 (by decide))).trans hl
  have e4 : M1 r 0 = 0 := by rw [← hM2, m_s_s]
  have fr5 : fr (fun z => r ≤ z ∧ z ≤ r + 28) M M1 := fun z hz => by
    have hz1 : ¬ (r ≤ z ∧ z ≤ r + 28) := hz
    rw [← hM2]; exact (m_s_a (by omega))
  have md6 : mds sh M1 r := by rw [← hM2]; exact h.put (by decide)
  refine go_iload_n X d_Model_key_5 rfl rfl ?_
  refine go_iconst (v := 0) X d_Model_key_6 ?_
  refine go_aload_n X d_Model_key_7 rfl rfl ?_
  refine go_get (v := vi 0) X f_Model_210 h.1 rfl d_Model_key_8 (congrArg (s_v .int) e3) ?_
  refine go_iconst (v := 1) X d_Model_key_11 ?_
  refine go_isub X d_Model_key_12 ?_
  refine go_cSf (st2 := [vi (s_b (decide (0 ≤ i ∧ i ≤ 0 - 1)))]) (r := []) X k_Model_103 (m_within l D (by omega) (by omega) (by omega)) rfl rfl (by omega) (Nat.le_of_ble_eq_true rfl) d_Model_key_13 (by omega) (by omega) rfl ?_
  refine go_ifb_eq (tgt := 33) X d_Model_key_16 rfl (fun hq7 => ?_) (fun hq7 => ?_)
  · skip
    refine go_aload_n X d_Model_key_33 rfl rfl ?_
    refine go_iconst (v := 1) X d_Model_key_34 ?_
    refine go_cVf (st2 := [vi 0]) (r := []) X k_Model_128 (m_fail l D md6 (c := 1)) h.1 rfl rfl (by omega) (Nat.le_of_ble_eq_true rfl) d_Model_key_35 (by omega) (by omega) rfl ?_
    generalize hM9 : m_s M1 r 0 1 = M8
    have e10 : M8 r 15 = 0 := by rw [← hM9]; exact (m_s_n (fun q => absurd q.2 (by decide))).trans e3
    have e11 : M8 r 0 = 1 := by rw [← hM9, m_s_s]
    have fr12 : fr (fun z => r ≤ z ∧ z ≤ r + 28) M M8 := fun z hz => by
      have hz1 : ¬ (r ≤ z ∧ z ≤ r + 28) := hz
      rw [← hM9]; exact (m_s_a (by omega)).trans (fr5 z hz)
    clear e3 e4 fr5
    have md13 : mds sh M8 r := by rw [← hM9]; exact md6.put (by decide)
    refine go_i2l X d_Model_key_38 (by omega) ?_
    refine go_lret X d_Model_key_39 rfl (by omega) (by omega) ?_
    exact ⟨0, rfl, fun hcz => absurd (rfl.symm.trans hcz) (by decide), (by omega), rfl, rfl, e11.trans rfl.symm, md13, fr12⟩
  · skip
    exfalso
    simp only [decide_eq_true_eq, decide_eq_false_iff_not] at hq7
    omega
set_option maxHeartbeats 4000000 in
set_option maxRecDepth 100000 in
theorem m_field0 (l : Launch) (D : va_G) {sh : s_S} {M : s_M} {sz r : Int} (h : mds sh M r) {i x j : Int} (hi : -2147483648 ≤ i ∧ i < 2147483648) (hl : M r 15 = 0) : Sp l D y_Model_field prog_14_method_46_code 6 (some .int) 2 0 0 [vr r, vi i, vl x, vi j] sh M sz (fun v' sh' M' sz' => ∃ b : Int, v' = some (vi b) ∧ (((1 : Int)) = 0 → b = 0) ∧ (-2147483648 ≤ b ∧ b < 2147483648) ∧ sh' = sh ∧ sz' = sz ∧ M' r 0 = (1 : Int) ∧ mds sh M' r ∧ fr (fun z => r ≤ z ∧ z ≤ r + 28) M M') := by
  have hr0 := h.2.1
  refine Sp.ofGo (own := "CiteForgeModel") (nm := "field") (by decide) rfl rfl (Nat.le_of_ble_eq_true rfl) (lv := [(0, vr r), (1, vi i), (2, vl x), (4, vi j)]) rfl ?_
  intro g X
  refine go_aload_n X d_Model_field_0 rfl rfl ?_
  refine go_iconst (v := 0) X d_Model_field_1 ?_
  refine go_put (x := 0) (v := vi 0) X f_Model_95 h.1 rfl d_Model_field_2 rfl rfl rfl ?_
  generalize hM2 : m_s M r 0 0 = M1
  have e3 : M1 r 15 = 0 := by rw [← hM2]; exact (m_s_n (fun q => absurd q.2 (by decide))).trans hl
  have e4 : M1 r 0 = 0 := by rw [← hM2, m_s_s]
  have fr5 : fr (fun z => r ≤ z ∧ z ≤ r + 28) M M1 := fun z hz => by
    have hz1 : ¬ (r ≤ z ∧ z ≤ r + 28) := hz
    rw [← hM2]; exact (m_s_a (by omega))
  have md6 : mds sh M1 r := by rw [← hM2]; exact h.put (by decide)
  refine go_iload_n X d_Model_field_5 rfl rfl ?_
  refine go_iconst (v := 0) X d_Model_field_6 ?_
  refine go_aload_n X d_Model_field_7 rfl rfl ?_
  refine go_get (v := vi 0) X f_Model_210 h.1 rfl d_Model_field_8 (congrArg (s_v .int) e3) ?_
  refine go_iconst (v := 1) X d_Model_field_11 ?_
  refine go_isub X d_Model_field_12 ?_
  refine go_cSf (st2 := [vi (s_b (decide (0 ≤ i ∧ i ≤ 0 - 1)))]) (r := []) X k_Model_103 (m_within l D (by omega) (by omega) (by omega)) rfl rfl (by omega) (Nat.le_of_ble_eq_true rfl) d_Model_field_13 (by omega) (by omega) rfl ?_
  refine go_ifb_ne (tgt := 25) X d_Model_field_16 rfl (fun hq7 => ?_) (fun hq7 => ?_)
  · skip
    exfalso
    simp only [decide_eq_true_eq, decide_eq_false_iff_not] at hq7
    omega
  · skip
    refine go_aload_n X d_Model_field_19 rfl rfl ?_
    refine go_iconst (v := 1) X d_Model_field_20 ?_
    refine go_cVf (st2 := [vi 0]) (r := []) X k_Model_128 (m_fail l D md6 (c := 1)) h.1 rfl rfl (by omega) (Nat.le_of_ble_eq_true rfl) d_Model_field_21 (by omega) (by omega) rfl ?_
    generalize hM9 : m_s M1 r 0 1 = M8
    have e10 : M8 r 15 = 0 := by rw [← hM9]; exact (m_s_n (fun q => absurd q.2 (by decide))).trans e3
    have e11 : M8 r 0 = 1 := by rw [← hM9, m_s_s]
    have fr12 : fr (fun z => r ≤ z ∧ z ≤ r + 28) M M8 := fun z hz => by
      have hz1 : ¬ (r ≤ z ∧ z ≤ r + 28) := hz
      rw [← hM9]; exact (m_s_a (by omega)).trans (fr5 z hz)
    clear e3 e4 fr5
    have md13 : mds sh M8 r := by rw [← hM9]; exact md6.put (by decide)
    refine go_iret X d_Model_field_24 rfl ?_ (by omega) (by omega) ?_
    · rfl
    exact ⟨0, rfl, fun hcz => absurd (rfl.symm.trans hcz) (by decide), (by omega), rfl, rfl, e11.trans rfl.symm, md13, fr12⟩
set_option maxHeartbeats 4000000 in
set_option maxRecDepth 100000 in
theorem m_none (l : Launch) (D : va_G) {sh : s_S} {M : s_M} {sz r : Int} (h : mds sh M r) {i n : Int} (hi : -2147483648 ≤ i ∧ i < 2147483648) (hn : 0 ≤ n ∧ n ≤ 12) (hl : M r 26 = n) : Sp l D y_Model_none prog_14_method_89_code 2 (some .boolean) 2 0 0 [vr r, vi i] sh M sz (pF (some (vi (s_b (!decide (0 ≤ i ∧ i < n))))) sh M sz) := by
  have hr0 := h.2.1
  refine Sp.ofGo (own := "CiteForgeModel") (nm := "none") (by decide) rfl rfl (Nat.le_of_ble_eq_true rfl) (lv := [(0, vr r), (1, vi i)]) rfl ?_
  intro g X
  refine go_iload_n X d_Model_none_0 rfl rfl ?_
  refine go_iconst (v := 0) X d_Model_none_1 ?_
  refine go_aload_n X d_Model_none_2 rfl rfl ?_
  refine go_get (v := vi n) X f_Model_250 h.1 rfl d_Model_none_3 (congrArg (s_v .int) hl) ?_
  refine go_iconst (v := 1) X d_Model_none_6 ?_
  refine go_isub X d_Model_none_7 ?_
  refine go_cSf (st2 := [vi (s_b (decide (0 ≤ i ∧ i ≤ n - 1)))]) (r := []) X k_Model_103 (m_within l D (by omega) (by omega) (by omega)) rfl rfl (by omega) (Nat.le_of_ble_eq_true rfl) d_Model_none_8 (by omega) (by omega) rfl ?_
  refine go_ifb_ne (tgt := 18) X d_Model_none_11 rfl (fun hq1 => ?_) (fun hq1 => ?_)
  · skip
    refine go_iconst (v := 0) X d_Model_none_18 ?_
    refine go_iret X d_Model_none_19 rfl ?_ (by omega) (by omega) ?_
    · rfl
    simp only [decide_eq_true_eq, decide_eq_false_iff_not] at hq1
    have hb : (!decide (0 ≤ i ∧ i < n)) = false := by simp only [Bool.not_eq_true', Bool.not_eq_false', decide_eq_true_eq, decide_eq_false_iff_not]; omega
    rw [hb]
    exact ⟨rfl, rfl, rfl, rfl⟩
  · skip
    refine go_iconst (v := 1) X d_Model_none_14 ?_
    refine go_goto (tgt := 19) X d_Model_none_15 rfl ?_
    refine go_iret X d_Model_none_19 rfl ?_ (by omega) (by omega) ?_
    · rfl
    simp only [decide_eq_true_eq, decide_eq_false_iff_not] at hq1
    have hb : (!decide (0 ≤ i ∧ i < n)) = true := by simp only [Bool.not_eq_true', Bool.not_eq_false', decide_eq_true_eq, decide_eq_false_iff_not]; omega
    rw [hb]
    exact ⟨rfl, rfl, rfl, rfl⟩
set_option maxHeartbeats 4000000 in
set_option maxRecDepth 100000 in
theorem m_kind0 (l : Launch) (D : va_G) {sh : s_S} {M : s_M} {sz r : Int} (h : mds sh M r) {i : Int} (hi : -2147483648 ≤ i ∧ i < 2147483648) (hl : M r 26 = 0) : Sp l D y_Model_kind prog_14_method_90_code 2 (some .int) 3 0 0 [vr r, vi i] sh M sz (fun v' sh' M' sz' => ∃ b : Int, v' = some (vi b) ∧ (((1 : Int)) = 0 → b = 0) ∧ (-2147483648 ≤ b ∧ b < 2147483648) ∧ sh' = sh ∧ sz' = sz ∧ M' r 0 = (1 : Int) ∧ mds sh M' r ∧ fr (fun z => r ≤ z ∧ z ≤ r + 28) M M') := by
  have hr0 := h.2.1
  refine Sp.ofGo (own := "CiteForgeModel") (nm := "kind") (by decide) rfl rfl (Nat.le_of_ble_eq_true rfl) (lv := [(0, vr r), (1, vi i)]) rfl ?_
  intro g X
  refine go_aload_n X d_Model_kind_0 rfl rfl ?_
  refine go_iconst (v := 0) X d_Model_kind_1 ?_
  refine go_put (x := 0) (v := vi 0) X f_Model_95 h.1 rfl d_Model_kind_2 rfl rfl rfl ?_
  generalize hM2 : m_s M r 0 0 = M1
  have e3 : M1 r 26 = 0 := by rw [← hM2]; exact (m_s_n (fun q => absurd q.2 (by decide))).trans hl
  have e4 : M1 r 0 = 0 := by rw [← hM2, m_s_s]
  have fr5 : fr (fun z => r ≤ z ∧ z ≤ r + 28) M M1 := fun z hz => by
    have hz1 : ¬ (r ≤ z ∧ z ≤ r + 28) := hz
    rw [← hM2]; exact (m_s_a (by omega))
  have md6 : mds sh M1 r := by rw [← hM2]; exact h.put (by decide)
  refine go_aload_n X d_Model_kind_5 rfl rfl ?_
  refine go_iload_n X d_Model_kind_6 rfl rfl ?_
  refine go_cVf (st2 := [vi (s_b (!decide (0 ≤ i ∧ i < 0)))]) (r := []) X k_Model_417 (m_none l D md6 (by omega) (n := 0) (by omega) e3) h.1 rfl rfl (by omega) (Nat.le_of_ble_eq_true rfl) d_Model_kind_7 (by omega) (by omega) rfl ?_
  refine go_ifb_eq (tgt := 21) X d_Model_kind_10 rfl (fun hq7 => ?_) (fun hq7 => ?_)
  · skip
    exfalso
    simp only [Bool.not_eq_true', Bool.not_eq_false', decide_eq_true_eq, decide_eq_false_iff_not] at hq7
    omega
  · skip
    refine go_aload_n X d_Model_kind_13 rfl rfl ?_
    refine go_iconst (v := 1) X d_Model_kind_14 ?_
    refine go_cVf (st2 := [vi 0]) (r := []) X k_Model_128 (m_fail l D md6 (c := 1)) h.1 rfl rfl (by omega) (Nat.le_of_ble_eq_true rfl) d_Model_kind_15 (by omega) (by omega) rfl ?_
    generalize hM9 : m_s M1 r 0 1 = M8
    have e10 : M8 r 26 = 0 := by rw [← hM9]; exact (m_s_n (fun q => absurd q.2 (by decide))).trans e3
    have e11 : M8 r 0 = 1 := by rw [← hM9, m_s_s]
    have fr12 : fr (fun z => r ≤ z ∧ z ≤ r + 28) M M8 := fun z hz => by
      have hz1 : ¬ (r ≤ z ∧ z ≤ r + 28) := hz
      rw [← hM9]; exact (m_s_a (by omega)).trans (fr5 z hz)
    clear e3 e4 fr5
    have md13 : mds sh M8 r := by rw [← hM9]; exact md6.put (by decide)
    refine go_goto (tgt := 34) X d_Model_kind_18 rfl ?_
    refine go_iret X d_Model_kind_34 rfl ?_ (by omega) (by omega) ?_
    · rfl
    exact ⟨0, rfl, fun hcz => absurd (rfl.symm.trans hcz) (by decide), (by omega), rfl, rfl, e11.trans rfl.symm, md13, fr12⟩
set_option maxHeartbeats 4000000 in
set_option maxRecDepth 100000 in
theorem m_value0 (l : Launch) (D : va_G) {sh : s_S} {M : s_M} {sz r : Int} (h : mds sh M r) {i : Int} (hi : -2147483648 ≤ i ∧ i < 2147483648) (hl : M r 26 = 0) : Sp l D y_Model_value prog_14_method_91_code 3 (some .int) 3 0 0 [vr r, vi i] sh M sz (fun v' sh' M' sz' => ∃ b : Int, v' = some (vi b) ∧ (((1 : Int)) = 0 → b = 0) ∧ (-2147483648 ≤ b ∧ b < 2147483648) ∧ sh' = sh ∧ sz' = sz ∧ M' r 0 = (1 : Int) ∧ mds sh M' r ∧ fr (fun z => r ≤ z ∧ z ≤ r + 28) M M') := by
  have hr0 := h.2.1
  refine Sp.ofGo (own := "CiteForgeModel") (nm := "value") (by decide) rfl rfl (Nat.le_of_ble_eq_true rfl) (lv := [(0, vr r), (1, vi i)]) rfl ?_
  intro g X
  refine go_aload_n X d_Model_value_0 rfl rfl ?_
  refine go_iconst (v := 0) X d_Model_value_1 ?_
  refine go_put (x := 0) (v := vi 0) X f_Model_95 h.1 rfl d_Model_value_2 rfl rfl rfl ?_
  generalize hM2 : m_s M r 0 0 = M1
  have e3 : M1 r 26 = 0 := by rw [← hM2]; exact (m_s_n (fun q => absurd q.2 (by decide))).trans hl
  have e4 : M1 r 0 = 0 := by rw [← hM2, m_s_s]
  have fr5 : fr (fun z => r ≤ z ∧ z ≤ r + 28) M M1 := fun z hz => by
    have hz1 : ¬ (r ≤ z ∧ z ≤ r + 28) := hz
    rw [← hM2]; exact (m_s_a (by omega))
  have md6 : mds sh M1 r := by rw [← hM2]; exact h.put (by decide)
  refine go_aload_n X d_Model_value_5 rfl rfl ?_
  refine go_iload_n X d_Model_value_6 rfl rfl ?_
  refine go_cVf (st2 := [vi (s_b (!decide (0 ≤ i ∧ i < 0)))]) (r := []) X k_Model_417 (m_none l D md6 (by omega) (n := 0) (by omega) e3) h.1 rfl rfl (by omega) (Nat.le_of_ble_eq_true rfl) d_Model_value_7 (by omega) (by omega) rfl ?_
  refine go_ifb_eq (tgt := 19) X d_Model_value_10 rfl (fun hq7 => ?_) (fun hq7 => ?_)
  · skip
    exfalso
    simp only [Bool.not_eq_true', Bool.not_eq_false', decide_eq_true_eq, decide_eq_false_iff_not] at hq7
    omega
  · skip
    refine go_aload_n X d_Model_value_13 rfl rfl ?_
    refine go_iconst (v := 1) X d_Model_value_14 ?_
    refine go_cVf (st2 := [vi 0]) (r := []) X k_Model_128 (m_fail l D md6 (c := 1)) h.1 rfl rfl (by omega) (Nat.le_of_ble_eq_true rfl) d_Model_value_15 (by omega) (by omega) rfl ?_
    generalize hM9 : m_s M1 r 0 1 = M8
    have e10 : M8 r 26 = 0 := by rw [← hM9]; exact (m_s_n (fun q => absurd q.2 (by decide))).trans e3
    have e11 : M8 r 0 = 1 := by rw [← hM9, m_s_s]
    have fr12 : fr (fun z => r ≤ z ∧ z ≤ r + 28) M M8 := fun z hz => by
      have hz1 : ¬ (r ≤ z ∧ z ≤ r + 28) := hz
      rw [← hM9]; exact (m_s_a (by omega)).trans (fr5 z hz)
    clear e3 e4 fr5
    have md13 : mds sh M8 r := by rw [← hM9]; exact md6.put (by decide)
    refine go_iret X d_Model_value_18 rfl ?_ (by omega) (by omega) ?_
    · rfl
    exact ⟨0, rfl, fun hcz => absurd (rfl.symm.trans hcz) (by decide), (by omega), rfl, rfl, e11.trans rfl.symm, md13, fr12⟩
set_option maxHeartbeats 4000000 in
set_option maxRecDepth 100000 in
theorem m_letter0 (l : Launch) (D : va_G) {sh : s_S} {M : s_M} {sz r : Int} (h : mds sh M r) {i j : Int} (hi : -2147483648 ≤ i ∧ i < 2147483648) (hl : M r 26 = 0) : Sp l D y_Model_letter prog_14_method_92_code 4 (some .int) 3 0 0 [vr r, vi i, vi j] sh M sz (fun v' sh' M' sz' => ∃ b : Int, v' = some (vi b) ∧ (((1 : Int)) = 0 → b = 0) ∧ (-2147483648 ≤ b ∧ b < 2147483648) ∧ sh' = sh ∧ sz' = sz ∧ M' r 0 = (1 : Int) ∧ mds sh M' r ∧ fr (fun z => r ≤ z ∧ z ≤ r + 28) M M') := by
  have hr0 := h.2.1
  refine Sp.ofGo (own := "CiteForgeModel") (nm := "letter") (by decide) rfl rfl (Nat.le_of_ble_eq_true rfl) (lv := [(0, vr r), (1, vi i), (2, vi j)]) rfl ?_
  intro g X
  refine go_aload_n X d_Model_letter_0 rfl rfl ?_
  refine go_iconst (v := 0) X d_Model_letter_1 ?_
  refine go_put (x := 0) (v := vi 0) X f_Model_95 h.1 rfl d_Model_letter_2 rfl rfl rfl ?_
  generalize hM2 : m_s M r 0 0 = M1
  have e3 : M1 r 26 = 0 := by rw [← hM2]; exact (m_s_n (fun q => absurd q.2 (by decide))).trans hl
  have e4 : M1 r 0 = 0 := by rw [← hM2, m_s_s]
  have fr5 : fr (fun z => r ≤ z ∧ z ≤ r + 28) M M1 := fun z hz => by
    have hz1 : ¬ (r ≤ z ∧ z ≤ r + 28) := hz
    rw [← hM2]; exact (m_s_a (by omega))
  have md6 : mds sh M1 r := by rw [← hM2]; exact h.put (by decide)
  refine go_aload_n X d_Model_letter_5 rfl rfl ?_
  refine go_iload_n X d_Model_letter_6 rfl rfl ?_
  refine go_cVf (st2 := [vi (s_b (!decide (0 ≤ i ∧ i < 0)))]) (r := []) X k_Model_417 (m_none l D md6 (by omega) (n := 0) (by omega) e3) h.1 rfl rfl (by omega) (Nat.le_of_ble_eq_true rfl) d_Model_letter_7 (by omega) (by omega) rfl ?_
  refine go_ifb_ne (tgt := 30) X d_Model_letter_10 rfl (fun hq7 => ?_) (fun hq7 => ?_)
  · skip
    refine go_aload_n X d_Model_letter_30 rfl rfl ?_
    refine go_iconst (v := 1) X d_Model_letter_31 ?_
    refine go_cVf (st2 := [vi 0]) (r := []) X k_Model_128 (m_fail l D md6 (c := 1)) h.1 rfl rfl (by omega) (Nat.le_of_ble_eq_true rfl) d_Model_letter_32 (by omega) (by omega) rfl ?_
    generalize hM9 : m_s M1 r 0 1 = M8
    have e10 : M8 r 26 = 0 := by rw [← hM9]; exact (m_s_n (fun q => absurd q.2 (by decide))).trans e3
    have e11 : M8 r 0 = 1 := by rw [← hM9, m_s_s]
    have fr12 : fr (fun z => r ≤ z ∧ z ≤ r + 28) M M8 := fun z hz => by
      have hz1 : ¬ (r ≤ z ∧ z ≤ r + 28) := hz
      rw [← hM9]; exact (m_s_a (by omega)).trans (fr5 z hz)
    clear e3 e4 fr5
    have md13 : mds sh M8 r := by rw [← hM9]; exact md6.put (by decide)
    refine go_iret X d_Model_letter_35 rfl ?_ (by omega) (by omega) ?_
    · rfl
    exact ⟨0, rfl, fun hcz => absurd (rfl.symm.trans hcz) (by decide), (by omega), rfl, rfl, e11.trans rfl.symm, md13, fr12⟩
  · skip
    exfalso
    simp only [Bool.not_eq_true', Bool.not_eq_false', decide_eq_true_eq, decide_eq_false_iff_not] at hq7
    omega
set_option maxHeartbeats 4000000 in
set_option maxRecDepth 100000 in
theorem m_line0 (l : Launch) (D : va_G) {sh : s_S} {M : s_M} {sz r : Int} (h : mds sh M r) {i j : Int} (hi : -2147483648 ≤ i ∧ i < 2147483648) (hl : M r 44 = 0) : Sp l D y_Model_line prog_14_method_94_code 3 (some .int) 3 0 0 [vr r, vi i, vi j] sh M sz (fun v' sh' M' sz' => ∃ b : Int, v' = some (vi b) ∧ (((1 : Int)) = 0 → b = 0) ∧ (-2147483648 ≤ b ∧ b < 2147483648) ∧ sh' = sh ∧ sz' = sz ∧ M' r 0 = (1 : Int) ∧ mds sh M' r ∧ fr (fun z => r ≤ z ∧ z ≤ r + 28) M M') := by
  have hr0 := h.2.1
  refine Sp.ofGo (own := "CiteForgeModel") (nm := "line") (by decide) rfl rfl (Nat.le_of_ble_eq_true rfl) (lv := [(0, vr r), (1, vi i), (2, vi j)]) rfl ?_
  intro g X
  refine go_aload_n X d_Model_line_0 rfl rfl ?_
  refine go_iconst (v := 0) X d_Model_line_1 ?_
  refine go_put (x := 0) (v := vi 0) X f_Model_95 h.1 rfl d_Model_line_2 rfl rfl rfl ?_
  generalize hM2 : m_s M r 0 0 = M1
  have e3 : M1 r 44 = 0 := by rw [← hM2]; exact (m_s_n (fun q => absurd q.2 (by decide))).trans hl
  have e4 : M1 r 0 = 0 := by rw [← hM2, m_s_s]
  have fr5 : fr (fun z => r ≤ z ∧ z ≤ r + 28) M M1 := fun z hz => by
    have hz1 : ¬ (r ≤ z ∧ z ≤ r + 28) := hz
    rw [← hM2]; exact (m_s_a (by omega))
  have md6 : mds sh M1 r := by rw [← hM2]; exact h.put (by decide)
  refine go_iload_n X d_Model_line_5 rfl rfl ?_
  refine go_iconst (v := 0) X d_Model_line_6 ?_
  refine go_bipush (v := 23) X d_Model_line_7 (by decide) ?_
  refine go_cSf (st2 := [vi (s_b (decide (0 ≤ i ∧ i ≤ 23)))]) (r := []) X k_Model_103 (m_within l D (by omega) (by omega) (by omega)) rfl rfl (by omega) (Nat.le_of_ble_eq_true rfl) d_Model_line_9 (by omega) (by omega) rfl ?_
  refine go_ifb_eq (tgt := 23) X d_Model_line_12 rfl (fun hq7 => ?_) (fun hq7 => ?_)
  · skip
    refine go_aload_n X d_Model_line_23 rfl rfl ?_
    refine go_iconst (v := 1) X d_Model_line_24 ?_
    refine go_cVf (st2 := [vi 0]) (r := []) X k_Model_128 (m_fail l D md6 (c := 1)) h.1 rfl rfl (by omega) (Nat.le_of_ble_eq_true rfl) d_Model_line_25 (by omega) (by omega) rfl ?_
    generalize hM9 : m_s M1 r 0 1 = M8
    have e10 : M8 r 44 = 0 := by rw [← hM9]; exact (m_s_n (fun q => absurd q.2 (by decide))).trans e3
    have e11 : M8 r 0 = 1 := by rw [← hM9, m_s_s]
    have fr12 : fr (fun z => r ≤ z ∧ z ≤ r + 28) M M8 := fun z hz => by
      have hz1 : ¬ (r ≤ z ∧ z ≤ r + 28) := hz
      rw [← hM9]; exact (m_s_a (by omega)).trans (fr5 z hz)
    clear e3 e4 fr5
    have md13 : mds sh M8 r := by rw [← hM9]; exact md6.put (by decide)
    refine go_iret X d_Model_line_28 rfl ?_ (by omega) (by omega) ?_
    · rfl
    exact ⟨0, rfl, fun hcz => absurd (rfl.symm.trans hcz) (by decide), (by omega), rfl, rfl, e11.trans rfl.symm, md13, fr12⟩
  · skip
    refine go_iload_n X d_Model_line_15 rfl rfl ?_
    refine go_aload_n X d_Model_line_16 rfl rfl ?_
    refine go_get (v := vi 0) X f_Model_377 h.1 rfl d_Model_line_17 (congrArg (s_v .int) e3) ?_
    refine go_icmp_lt (tgt := 29) X d_Model_line_20 rfl (by omega) (by omega) (fun hq14 => ?_) (fun hq14 => ?_)
    · skip
      exfalso
      simp only [decide_eq_true_eq, decide_eq_false_iff_not] at hq7
      omega
    · skip
      refine go_aload_n X d_Model_line_23 rfl rfl ?_
      refine go_iconst (v := 1) X d_Model_line_24 ?_
      refine go_cVf (st2 := [vi 0]) (r := []) X k_Model_128 (m_fail l D md6 (c := 1)) h.1 rfl rfl (by omega) (Nat.le_of_ble_eq_true rfl) d_Model_line_25 (by omega) (by omega) rfl ?_
      generalize hM16 : m_s M1 r 0 1 = M15
      have e17 : M15 r 44 = 0 := by rw [← hM16]; exact (m_s_n (fun q => absurd q.2 (by decide))).trans e3
      have e18 : M15 r 0 = 1 := by rw [← hM16, m_s_s]
      have fr19 : fr (fun z => r ≤ z ∧ z ≤ r + 28) M M15 := fun z hz => by
        have hz1 : ¬ (r ≤ z ∧ z ≤ r + 28) := hz
        rw [← hM16]; exact (m_s_a (by omega)).trans (fr5 z hz)
      clear e3 e4 fr5
      have md20 : mds sh M15 r := by rw [← hM16]; exact md6.put (by decide)
      refine go_iret X d_Model_line_28 rfl ?_ (by omega) (by omega) ?_
      · rfl
      exact ⟨0, rfl, fun hcz => absurd (rfl.symm.trans hcz) (by decide), (by omega), rfl, rfl, e18.trans rfl.symm, md20, fr19⟩
set_option maxHeartbeats 4000000 in
set_option maxRecDepth 100000 in
theorem m_count (l : Launch) (D : va_G) {sh : s_S} {M : s_M} {sz r : Int} (h : mds sh M r) {i a b c e n : Int} (hi : -2147483648 ≤ i ∧ i < 2147483648) (ha : -2147483648 ≤ a ∧ a < 2147483648) (hb : -2147483648 ≤ b ∧ b < 2147483648) (hc : -2147483648 ≤ c ∧ c < 2147483648) (he : -2147483648 ≤ e ∧ e < 2147483648) (hn : -2147483648 ≤ n ∧ n < 2147483648) (g1 : M r 6 = a) (g2 : M r 15 = b) (g3 : M r 44 = c) (g4 : M r 45 = e) (g5 : M r 13 = n) : Sp l D y_Model_count prog_14_method_95_code 2 (some .int) 3 0 0 [vr r, vi i] sh M sz (fun v' sh' M' sz' => ∃ b' : Int, v' = some (vi b') ∧ ((cok i) = 0 → b' = cov i a b c e n) ∧ (-2147483648 ≤ b' ∧ b' < 2147483648) ∧ sh' = sh ∧ sz' = sz ∧ M' r 0 = cok i ∧ mds sh M' r ∧ fr (fun z => r ≤ z ∧ z ≤ r + 28) M M') := by
  have hr0 := h.2.1
  refine Sp.ofGo (own := "CiteForgeModel") (nm := "count") (by decide) rfl rfl (Nat.le_of_ble_eq_true rfl) (lv := [(0, vr r), (1, vi i)]) rfl ?_
  intro g X
  refine go_aload_n X d_Model_count_0 rfl rfl ?_
  refine go_iconst (v := 0) X d_Model_count_1 ?_
  refine go_put (x := 0) (v := vi 0) X f_Model_95 h.1 rfl d_Model_count_2 rfl rfl rfl ?_
  generalize hM2 : m_s M r 0 0 = M1
  have e3 : M1 r 6 = a := by rw [← hM2]; exact (m_s_n (fun q => absurd q.2 (by decide))).trans g1
  have e4 : M1 r 15 = b := by rw [← hM2]; exact (m_s_n (fun q => absurd q.2 (by decide))).trans g2
  have e5 : M1 r 44 = c := by rw [← hM2]; exact (m_s_n (fun q => absurd q.2 (by decide))).trans g3
  have e6 : M1 r 45 = e := by rw [← hM2]; exact (m_s_n (fun q => absurd q.2 (by decide))).trans g4
  have e7 : M1 r 13 = n := by rw [← hM2]; exact (m_s_n (fun q => absurd q.2 (by decide))).trans g5
  have e8 : M1 r 0 = 0 := by rw [← hM2, m_s_s]
  have fr9 : fr (fun z => r ≤ z ∧ z ≤ r + 28) M M1 := fun z hz => by
    have hz1 : ¬ (r ≤ z ∧ z ≤ r + 28) := hz
    rw [← hM2]; exact (m_s_a (by omega))
  have md10 : mds sh M1 r := by rw [← hM2]; exact h.put (by decide)
  refine go_iload_n X d_Model_count_5 rfl rfl ?_
  refine go_iconst (v := 0) X d_Model_count_6 ?_
  refine go_iconst (v := 4) X d_Model_count_7 ?_
  refine go_cSf (st2 := [vi (s_b (decide (0 ≤ i ∧ i ≤ 4)))]) (r := []) X k_Model_103 (m_within l D (by omega) (by omega) (by omega)) rfl rfl (by omega) (Nat.le_of_ble_eq_true rfl) d_Model_count_8 (by omega) (by omega) rfl ?_
  refine go_ifb_ne (tgt := 20) X d_Model_count_11 rfl (fun hq11 => ?_) (fun hq11 => ?_)
  · skip
    simp only [decide_eq_true_eq, decide_eq_false_iff_not] at hq11
    refine go_iload_n X d_Model_count_20 rfl rfl ?_
    refine go_if_ne (tgt := 31) X d_Model_count_21 rfl (by omega) (fun hq12 => ?_) (fun hq12 => ?_)
    · skip
      refine go_iload_n X d_Model_count_31 rfl rfl ?_
      refine go_iconst (v := 1) X d_Model_count_32 ?_
      refine go_icmp_ne (tgt := 43) X d_Model_count_33 rfl (by omega) (by omega) (fun hq13 => ?_) (fun hq13 => ?_)
      · skip
        refine go_iload_n X d_Model_count_43 rfl rfl ?_
        refine go_iconst (v := 2) X d_Model_count_44 ?_
        refine go_icmp_ne (tgt := 55) X d_Model_count_45 rfl (by omega) (by omega) (fun hq14 => ?_) (fun hq14 => ?_)
        · skip
          refine go_iload_n X d_Model_count_55 rfl rfl ?_
          refine go_iconst (v := 3) X d_Model_count_56 ?_
          refine go_icmp_ne (tgt := 67) X d_Model_count_57 rfl (by omega) (by omega) (fun hq15 => ?_) (fun hq15 => ?_)
          · skip
            refine go_aload_n X d_Model_count_67 rfl rfl ?_
            refine go_get (v := vi n) X f_Model_228 h.1 rfl d_Model_count_68 (congrArg (s_v .int) e7) ?_
            refine go_iret X d_Model_count_71 rfl ?_ (by omega) (by omega) ?_
            · rfl
            exact ⟨n, rfl, fun _ => by unfold cov; rw [if_neg (by omega), if_neg (by omega), if_neg (by omega), if_neg (by omega)], (by omega), rfl, rfl, e8.trans (if_pos (by omega) : cok i = 0).symm, md10, fr9⟩
          · skip
            refine go_aload_n X d_Model_count_60 rfl rfl ?_
            refine go_get (v := vi e) X f_Model_316 h.1 rfl d_Model_count_61 (congrArg (s_v .int) e6) ?_
            refine go_goto (tgt := 71) X d_Model_count_64 rfl ?_
            refine go_iret X d_Model_count_71 rfl ?_ (by omega) (by omega) ?_
            · rfl
            exact ⟨e, rfl, fun _ => by unfold cov; rw [if_neg (by omega), if_neg (by omega), if_neg (by omega), if_pos (by omega)], (by omega), rfl, rfl, e8.trans (if_pos (by omega) : cok i = 0).symm, md10, fr9⟩
        · skip
          refine go_aload_n X d_Model_count_48 rfl rfl ?_
          refine go_get (v := vi c) X f_Model_377 h.1 rfl d_Model_count_49 (congrArg (s_v .int) e5) ?_
          refine go_goto (tgt := 71) X d_Model_count_52 rfl ?_
          refine go_iret X d_Model_count_71 rfl ?_ (by omega) (by omega) ?_
          · rfl
          exact ⟨c, rfl, fun _ => by unfold cov; rw [if_neg (by omega), if_neg (by omega), if_pos (by omega)], (by omega), rfl, rfl, e8.trans (if_pos (by omega) : cok i = 0).symm, md10, fr9⟩
      · skip
        refine go_aload_n X d_Model_count_36 rfl rfl ?_
        refine go_get (v := vi b) X f_Model_210 h.1 rfl d_Model_count_37 (congrArg (s_v .int) e4) ?_
        refine go_goto (tgt := 71) X d_Model_count_40 rfl ?_
        refine go_iret X d_Model_count_71 rfl ?_ (by omega) (by omega) ?_
        · rfl
        exact ⟨b, rfl, fun _ => by unfold cov; rw [if_neg (by omega), if_pos (by omega)], (by omega), rfl, rfl, e8.trans (if_pos (by omega) : cok i = 0).symm, md10, fr9⟩
    · skip
      refine go_aload_n X d_Model_count_24 rfl rfl ?_
      refine go_get (v := vi a) X f_Model_201 h.1 rfl d_Model_count_25 (congrArg (s_v .int) e3) ?_
      refine go_goto (tgt := 71) X d_Model_count_28 rfl ?_
      refine go_iret X d_Model_count_71 rfl ?_ (by omega) (by omega) ?_
      · rfl
      exact ⟨a, rfl, fun _ => by unfold cov; rw [if_pos (by omega)], (by omega), rfl, rfl, e8.trans (if_pos (by omega) : cok i = 0).symm, md10, fr9⟩
  · skip
    simp only [decide_eq_true_eq, decide_eq_false_iff_not] at hq11
    refine go_aload_n X d_Model_count_14 rfl rfl ?_
    refine go_iconst (v := 1) X d_Model_count_15 ?_
    refine go_cVf (st2 := [vi 0]) (r := []) X k_Model_128 (m_fail l D md10 (c := 1)) h.1 rfl rfl (by omega) (Nat.le_of_ble_eq_true rfl) d_Model_count_16 (by omega) (by omega) rfl ?_
    generalize hM17 : m_s M1 r 0 1 = M16
    have e18 : M16 r 6 = a := by rw [← hM17]; exact (m_s_n (fun q => absurd q.2 (by decide))).trans e3
    have e19 : M16 r 15 = b := by rw [← hM17]; exact (m_s_n (fun q => absurd q.2 (by decide))).trans e4
    have e20 : M16 r 44 = c := by rw [← hM17]; exact (m_s_n (fun q => absurd q.2 (by decide))).trans e5
    have e21 : M16 r 45 = e := by rw [← hM17]; exact (m_s_n (fun q => absurd q.2 (by decide))).trans e6
    have e22 : M16 r 13 = n := by rw [← hM17]; exact (m_s_n (fun q => absurd q.2 (by decide))).trans e7
    have e23 : M16 r 0 = 1 := by rw [← hM17, m_s_s]
    have fr24 : fr (fun z => r ≤ z ∧ z ≤ r + 28) M M16 := fun z hz => by
      have hz1 : ¬ (r ≤ z ∧ z ≤ r + 28) := hz
      rw [← hM17]; exact (m_s_a (by omega)).trans (fr9 z hz)
    clear e3 e4 e5 e6 e7 e8 fr9
    have md25 : mds sh M16 r := by rw [← hM17]; exact md10.put (by decide)
    refine go_iret X d_Model_count_19 rfl ?_ (by omega) (by omega) ?_
    · rfl
    exact ⟨0, rfl, fun hcz => absurd ((if_neg (by omega) : cok i = 1).symm.trans hcz) (by decide), (by omega), rfl, rfl, e23.trans (if_neg (by omega) : cok i = 1).symm, md25, fr24⟩
set_option maxHeartbeats 4000000 in
set_option maxRecDepth 100000 in
theorem m_warnings (l : Launch) (D : va_G) {sh : s_S} {M : s_M} {sz r : Int} (h : mds sh M r) {i : Int} {WN : Int → Int} (hi : -2147483648 ≤ i ∧ i < 2147483648) (g1 : M (r + 1) = WN) : Sp l D y_Model_warnings prog_14_method_96_code 2 (some .int) 3 0 0 [vr r, vi i] sh M sz (fun v' sh' M' sz' => ∃ b : Int, v' = some (vi b) ∧ ((wak i) = 0 → b = wi32 (WN i)) ∧ (-2147483648 ≤ b ∧ b < 2147483648) ∧ sh' = sh ∧ sz' = sz ∧ M' r 0 = wak i ∧ mds sh M' r ∧ fr (fun z => r ≤ z ∧ z ≤ r + 28) M M') := by
  have hr0 := h.2.1
  refine Sp.ofGo (own := "CiteForgeModel") (nm := "warnings") (by decide) rfl rfl (Nat.le_of_ble_eq_true rfl) (lv := [(0, vr r), (1, vi i)]) rfl ?_
  intro g X
  refine go_aload_n X d_Model_warnings_0 rfl rfl ?_
  refine go_iconst (v := 0) X d_Model_warnings_1 ?_
  refine go_put (x := 0) (v := vi 0) X f_Model_95 h.1 rfl d_Model_warnings_2 rfl rfl rfl ?_
  generalize hM2 : m_s M r 0 0 = M1
  have e3 : M1 r 0 = 0 := by rw [← hM2, m_s_s]
  have fr4 : fr (fun z => r ≤ z ∧ z ≤ r + 28) M M1 := fun z hz => by
    have hz1 : ¬ (r ≤ z ∧ z ≤ r + 28) := hz
    rw [← hM2]; exact (m_s_a (by omega))
  have rw5 : M1 (r + 1) = WN := by rw [← hM2]; exact (m_s_a (of_ne0 (by decide))).trans g1
  have md6 : mds sh M1 r := by rw [← hM2]; exact h.put (by decide)
  refine go_iload_n X d_Model_warnings_5 rfl rfl ?_
  refine go_iconst (v := 1) X d_Model_warnings_6 ?_
  refine go_bipush (v := 9) X d_Model_warnings_7 (by decide) ?_
  refine go_cSf (st2 := [vi (s_b (decide (1 ≤ i ∧ i ≤ 9)))]) (r := []) X k_Model_103 (m_within l D (by omega) (by omega) (by omega)) rfl rfl (by omega) (Nat.le_of_ble_eq_true rfl) d_Model_warnings_9 (by omega) (by omega) rfl ?_
  refine go_ifb_eq (tgt := 24) X d_Model_warnings_12 rfl (fun hq7 => ?_) (fun hq7 => ?_)
  · skip
    simp only [decide_eq_true_eq, decide_eq_false_iff_not] at hq7
    refine go_aload_n X d_Model_warnings_24 rfl rfl ?_
    refine go_iconst (v := 1) X d_Model_warnings_25 ?_
    refine go_cVf (st2 := [vi 0]) (r := []) X k_Model_128 (m_fail l D md6 (c := 1)) h.1 rfl rfl (by omega) (Nat.le_of_ble_eq_true rfl) d_Model_warnings_26 (by omega) (by omega) rfl ?_
    generalize hM9 : m_s M1 r 0 1 = M8
    have e10 : M8 r 0 = 1 := by rw [← hM9, m_s_s]
    have fr11 : fr (fun z => r ≤ z ∧ z ≤ r + 28) M M8 := fun z hz => by
      have hz1 : ¬ (r ≤ z ∧ z ≤ r + 28) := hz
      rw [← hM9]; exact (m_s_a (by omega)).trans (fr4 z hz)
    have rw12 : M8 (r + 1) = WN := by rw [← hM9]; exact (m_s_a (of_ne0 (by decide))).trans rw5
    clear e3 fr4 rw5
    have md13 : mds sh M8 r := by rw [← hM9]; exact md6.put (by decide)
    refine go_iret X d_Model_warnings_29 rfl ?_ (by omega) (by omega) ?_
    · rfl
    exact ⟨0, rfl, fun hcz => absurd ((if_neg (by omega) : wak i = 1).symm.trans hcz) (by decide), (by omega), rfl, rfl, e10.trans (if_neg (by omega) : wak i = 1).symm, md13, fr11⟩
  · skip
    simp only [decide_eq_true_eq, decide_eq_false_iff_not] at hq7
    refine go_aload_n X d_Model_warnings_15 rfl rfl ?_
    have sg14 : sh (r + 1) = some (.inr (.int, 10)) := (md6.2.2 0 _ rfl).1
    have e15 : M1 r 1 = r + 1 := (md6.2.2 0 _ rfl).2
    refine go_get (v := vr (r + 1)) X f_Model_7 h.1 rfl d_Model_warnings_16 (s_varr e15 (by omega)) ?_
    refine go_iload_n X d_Model_warnings_19 rfl rfl ?_
    refine go_iald X sg14 (by omega) (by omega) d_Model_warnings_20 ?_
    refine go_top (v' := vi (WN i)) X (by rw [rw5]) ?_
    refine go_goto (tgt := 29) X d_Model_warnings_21 rfl ?_
    refine go_iret X d_Model_warnings_29 rfl ?_ (by omega) (by omega) ?_
    · rfl
    exact ⟨wi32 (WN i), congrArg some (wi32_vi _), fun _ => rfl, wi32_rng _, rfl, rfl, e3.trans (if_pos (by omega) : wak i = 0).symm, md6, fr4⟩
set_option maxHeartbeats 4000000 in
set_option maxRecDepth 100000 in
theorem m_define (l : Launch) (D : va_G) {sh : s_S} {M : s_M} {sz r : Int} (h : mds sh M r) {f q v : Int} {Z : Int → Int} (hf : -2147483648 ≤ f ∧ f < 2147483648) (hq : -2147483648 ≤ q ∧ q < 2147483648) (hv : rL v) (hZ : zok Z) (g1 : M (r + 12) = Z) : Sp l D y_Model_define prog_14_method_47_code 5 (some .int) 3 0 0 [vr r, vi f, vi q, vl v] sh M sz (fun v' sh' M' sz' => ∃ b : Int, v' = some (vi b) ∧ ((dek Z f q) = 0 → b = Z f + 1) ∧ (-2147483648 ≤ b ∧ b < 2147483648) ∧ sh' = sh ∧ sz' = sz ∧ M' r 0 = dek Z f q ∧ mds sh M' r ∧ fr (fun z => r ≤ z ∧ z ≤ r + 28) M M') := by
  have hr0 := h.2.1
  refine Sp.ofGo (own := "CiteForgeModel") (nm := "define") (by decide) rfl rfl (Nat.le_of_ble_eq_true rfl) (lv := [(0, vr r), (1, vi f), (2, vi q), (3, vl v)]) rfl ?_
  intro g X
  refine go_aload_n X d_Model_define_0 rfl rfl ?_
  refine go_iconst (v := 0) X d_Model_define_1 ?_
  refine go_put (x := 0) (v := vi 0) X f_Model_95 h.1 rfl d_Model_define_2 rfl rfl rfl ?_
  generalize hM2 : m_s M r 0 0 = M1
  have e3 : M1 r 0 = 0 := by rw [← hM2, m_s_s]
  have fr4 : fr (fun z => r ≤ z ∧ z ≤ r + 28) M M1 := fun z hz => by
    have hz1 : ¬ (r ≤ z ∧ z ≤ r + 28) := hz
    rw [← hM2]; exact (m_s_a (by omega))
  have rw5 : M1 (r + 12) = Z := by rw [← hM2]; exact (m_s_a (of_ne0 (by decide))).trans g1
  have md6 : mds sh M1 r := by rw [← hM2]; exact h.put (by decide)
  refine go_iload_n X d_Model_define_5 rfl rfl ?_
  refine go_iconst (v := 0) X d_Model_define_6 ?_
  refine go_iconst (v := 5) X d_Model_define_7 ?_
  refine go_cSf (st2 := [vi (s_b (decide (0 ≤ f ∧ f ≤ 5)))]) (r := []) X k_Model_103 (m_within l D (by omega) (by omega) (by omega)) rfl rfl (by omega) (Nat.le_of_ble_eq_true rfl) d_Model_define_8 (by omega) (by omega) rfl ?_
  refine go_ifb_eq (tgt := 24) X d_Model_define_11 rfl (fun hq7 => ?_) (fun hq7 => ?_)
  · skip
    simp only [decide_eq_true_eq, decide_eq_false_iff_not] at hq7
    refine go_aload_n X d_Model_define_24 rfl rfl ?_
    refine go_iconst (v := 1) X d_Model_define_25 ?_
    refine go_cVf (st2 := [vi 0]) (r := []) X k_Model_128 (m_fail l D md6 (c := 1)) h.1 rfl rfl (by omega) (Nat.le_of_ble_eq_true rfl) d_Model_define_26 (by omega) (by omega) rfl ?_
    generalize hM9 : m_s M1 r 0 1 = M8
    have e10 : M8 r 0 = 1 := by rw [← hM9, m_s_s]
    have fr11 : fr (fun z => r ≤ z ∧ z ≤ r + 28) M M8 := fun z hz => by
      have hz1 : ¬ (r ≤ z ∧ z ≤ r + 28) := hz
      rw [← hM9]; exact (m_s_a (by omega)).trans (fr4 z hz)
    have rw12 : M8 (r + 12) = Z := by rw [← hM9]; exact (m_s_a (of_ne0 (by decide))).trans rw5
    clear e3 fr4 rw5
    have md13 : mds sh M8 r := by rw [← hM9]; exact md6.put (by decide)
    refine go_iret X d_Model_define_29 rfl ?_ (by omega) (by omega) ?_
    · rfl
    exact ⟨0, rfl, fun hcz => absurd ((if_neg (by omega) : dek Z f q = 1).symm.trans hcz) (by decide), (by first | omega | (have e0 : inc Z f f = Z f + 1 := if_pos rfl; omega)), rfl, rfl, e10.trans (if_neg (by omega) : dek Z f q = 1).symm, md13, fr11⟩
  · skip
    simp only [decide_eq_true_eq, decide_eq_false_iff_not] at hq7
    refine go_iload_n X d_Model_define_14 rfl rfl ?_
    refine go_iconst (v := 0) X d_Model_define_15 ?_
    refine go_bipush (v := 29) X d_Model_define_16 (by decide) ?_
    refine go_cSf (st2 := [vi (s_b (decide (0 ≤ q ∧ q ≤ 29)))]) (r := []) X k_Model_103 (m_within l D (by omega) (by omega) (by omega)) rfl rfl (by omega) (Nat.le_of_ble_eq_true rfl) d_Model_define_18 (by omega) (by omega) rfl ?_
    refine go_ifb_ne (tgt := 30) X d_Model_define_21 rfl (fun hq14 => ?_) (fun hq14 => ?_)
    · skip
      simp only [decide_eq_true_eq, decide_eq_false_iff_not] at hq14
      have hz0 := hZ f (by omega) (by omega)
      refine go_aload_n X d_Model_define_30 rfl rfl ?_
      have sg15 : sh (r + 12) = some (.inr (.int, 6)) := (md6.2.2 11 _ rfl).1
      have e16 : M1 r 22 = r + 12 := (md6.2.2 11 _ rfl).2
      refine go_get (v := vr (r + 12)) X f_Model_44 h.1 rfl d_Model_define_31 (s_varr e16 (by omega)) ?_
      refine go_iload_n X d_Model_define_34 rfl rfl ?_
      refine go_iald X sg15 (by omega) (by omega) d_Model_define_35 ?_
      refine go_top (v' := vi (Z f)) X (by rw [rw5]) ?_
      refine go_bipush (v := 24) X d_Model_define_36 (by decide) ?_
      refine go_icmp_ne (tgt := 47) X d_Model_define_38 rfl (by omega) (by omega) (fun hq17 => ?_) (fun hq17 => ?_)
      · skip
        refine go_aload_n X d_Model_define_47 rfl rfl ?_
        have sg18 : sh (r + 13) = some (.inr (.int, 144)) := (md6.2.2 12 _ rfl).1
        have e19 : M1 r 23 = r + 13 := (md6.2.2 12 _ rfl).2
        refine go_get (v := vr (r + 13)) X f_Model_47 h.1 rfl d_Model_define_48 (s_varr e19 (by omega)) ?_
        refine go_bipush (v := 24) X d_Model_define_51 (by decide) ?_
        refine go_iload_n X d_Model_define_53 rfl rfl ?_
        refine go_imul X d_Model_define_54 ?_
        refine go_aload_n X d_Model_define_55 rfl rfl ?_
        refine go_get (v := vr (r + 12)) X f_Model_44 h.1 rfl d_Model_define_56 (s_varr e16 (by omega)) ?_
        refine go_iload_n X d_Model_define_59 rfl rfl ?_
        refine go_iald X sg15 (by omega) (by omega) d_Model_define_60 ?_
        refine go_top (v' := vi (Z f)) X (by rw [rw5]) ?_
        refine go_iadd X d_Model_define_61 ?_
        refine go_iload_n X d_Model_define_62 rfl rfl ?_
        refine go_iast X sg18 (by omega) (by omega) d_Model_define_63 ?_
        generalize hM21 : m_s M1 (r + 13) ((24 * f) + (Z f)) q = M20
        have e22 : M20 r 0 = 0 := by rw [← hM21]; exact (m_s_n (fun q => absurd q.1 (of_ne1 (by decide)))).trans e3
        have e23 : M20 r 22 = r + 12 := by rw [← hM21]; exact (m_s_n (fun q => absurd q.1 (of_ne1 (by decide)))).trans e16
        have e24 : M20 r 23 = r + 13 := by rw [← hM21]; exact (m_s_n (fun q => absurd q.1 (of_ne1 (by decide)))).trans e19
        have e25 : M20 (r + 13) ((24 * f) + (Z f)) = q := by rw [← hM21, m_s_s]
        have fr26 : fr (fun z => r ≤ z ∧ z ≤ r + 28) M M20 := fun z hz => by
          have hz1 : ¬ (r ≤ z ∧ z ≤ r + 28) := hz
          rw [← hM21]; exact (m_s_a (by omega)).trans (fr4 z hz)
        have rw27 : M20 (r + 12) = Z := by rw [← hM21]; exact (m_s_a (of_ne (by decide))).trans rw5
        clear e16 e19 e3 fr4 rw5
        have md28 : mds sh M20 r := by rw [← hM21]; exact md6.off (m_s_a (by omega))
        refine go_aload_n X d_Model_define_64 rfl rfl ?_
        have sg29 : sh (r + 14) = some (.inr (.long, 144)) := (md28.2.2 13 _ rfl).1
        have e30 : M20 r 24 = r + 14 := (md28.2.2 13 _ rfl).2
        refine go_get (v := vr (r + 14)) X f_Model_50 h.1 rfl d_Model_define_65 (s_varr e30 (by omega)) ?_
        refine go_bipush (v := 24) X d_Model_define_68 (by decide) ?_
        refine go_iload_n X d_Model_define_70 rfl rfl ?_
        refine go_imul X d_Model_define_71 ?_
        refine go_aload_n X d_Model_define_72 rfl rfl ?_
        refine go_get (v := vr (r + 12)) X f_Model_44 h.1 rfl d_Model_define_73 (s_varr e23 (by omega)) ?_
        refine go_iload_n X d_Model_define_76 rfl rfl ?_
        refine go_iald X sg15 (by omega) (by omega) d_Model_define_77 ?_
        refine go_top (v' := vi (Z f)) X (by rw [rw27]) ?_
        refine go_iadd X d_Model_define_78 ?_
        refine go_lload_n X d_Model_define_79 rfl rfl ?_
        refine go_last X sg29 (by omega) (by omega) d_Model_define_80 ?_
        generalize hM32 : m_s M20 (r + 14) ((24 * f) + (Z f)) v = M31
        have e33 : M31 r 0 = 0 := by rw [← hM32]; exact (m_s_n (fun q => absurd q.1 (of_ne1 (by decide)))).trans e22
        have e34 : M31 r 22 = r + 12 := by rw [← hM32]; exact (m_s_n (fun q => absurd q.1 (of_ne1 (by decide)))).trans e23
        have e35 : M31 r 23 = r + 13 := by rw [← hM32]; exact (m_s_n (fun q => absurd q.1 (of_ne1 (by decide)))).trans e24
        have e36 : M31 (r + 13) ((24 * f) + (Z f)) = q := by rw [← hM32]; exact (m_s_n (fun q => absurd q.1 (of_ne (by decide)))).trans e25
        have e37 : M31 r 24 = r + 14 := by rw [← hM32]; exact (m_s_n (fun q => absurd q.1 (of_ne1 (by decide)))).trans e30
        have e38 : M31 (r + 14) ((24 * f) + (Z f)) = v := by rw [← hM32, m_s_s]
        have fr39 : fr (fun z => r ≤ z ∧ z ≤ r + 28) M M31 := fun z hz => by
          have hz1 : ¬ (r ≤ z ∧ z ≤ r + 28) := hz
          rw [← hM32]; exact (m_s_a (by omega)).trans (fr26 z hz)
        have rw40 : M31 (r + 12) = Z := by rw [← hM32]; exact (m_s_a (of_ne (by decide))).trans rw27
        clear e22 e23 e24 e25 e30 fr26 rw27
        have md41 : mds sh M31 r := by rw [← hM32]; exact md28.off (m_s_a (by omega))
        refine go_aload_n X d_Model_define_81 rfl rfl ?_
        refine go_get (v := vr (r + 12)) X f_Model_44 h.1 rfl d_Model_define_82 (s_varr e34 (by omega)) ?_
        refine go_iload_n X d_Model_define_85 rfl rfl ?_
        refine go_dup2 X d_Model_define_86 rfl rfl ?_
        refine go_iald X sg15 (by omega) (by omega) d_Model_define_87 ?_
        refine go_top (v' := vi (Z f)) X (by rw [rw40]) ?_
        refine go_iconst (v := 1) X d_Model_define_88 ?_
        refine go_iadd X d_Model_define_89 ?_
        refine go_iast X sg15 (by omega) (by omega) d_Model_define_90 ?_
        generalize hM43 : m_s M31 (r + 12) f ((Z f) + 1) = M42
        have e44 : M42 r 0 = 0 := by rw [← hM43]; exact (m_s_n (fun q => absurd q.1 (of_ne1 (by decide)))).trans e33
        have e45 : M42 r 22 = r + 12 := by rw [← hM43]; exact (m_s_n (fun q => absurd q.1 (of_ne1 (by decide)))).trans e34
        have e46 : M42 r 23 = r + 13 := by rw [← hM43]; exact (m_s_n (fun q => absurd q.1 (of_ne1 (by decide)))).trans e35
        have e47 : M42 (r + 13) ((24 * f) + (Z f)) = q := by rw [← hM43]; exact (m_s_n (fun q => absurd q.1 (of_ne (by decide)))).trans e36
        have e48 : M42 r 24 = r + 14 := by rw [← hM43]; exact (m_s_n (fun q => absurd q.1 (of_ne1 (by decide)))).trans e37
        have e49 : M42 (r + 14) ((24 * f) + (Z f)) = v := by rw [← hM43]; exact (m_s_n (fun q => absurd q.1 (of_ne (by decide)))).trans e38
        have e50 : M42 (r + 12) f = (Z f) + 1 := by rw [← hM43, m_s_s]
        have fr51 : fr (fun z => r ≤ z ∧ z ≤ r + 28) M M42 := fun z hz => by
          have hz1 : ¬ (r ≤ z ∧ z ≤ r + 28) := hz
          rw [← hM43]; exact (m_s_a (by omega)).trans (fr39 z hz)
        have rw52 : M42 (r + 12) = inc Z f := by rw [← hM43]; exact row_inc rw40
        clear e33 e34 e35 e36 e37 e38 fr39 rw40
        have md53 : mds sh M42 r := by rw [← hM43]; exact md41.off (m_s_a (by omega))
        refine go_aload_n X d_Model_define_91 rfl rfl ?_
        refine go_get (v := vr (r + 12)) X f_Model_44 h.1 rfl d_Model_define_92 (s_varr e45 (by omega)) ?_
        refine go_iload_n X d_Model_define_95 rfl rfl ?_
        refine go_iald X sg15 (by omega) (by omega) d_Model_define_96 ?_
        refine go_top (v' := vi ((inc Z f) f)) X (by rw [rw52]) ?_
        refine go_iret X d_Model_define_97 rfl ?_ (by omega) (by omega) ?_
        · rfl
        exact ⟨((inc Z f) f), rfl, fun _ => (if_pos rfl : inc Z f f = Z f + 1), (by first | omega | (have e0 : inc Z f f = Z f + 1 := if_pos rfl; omega)), rfl, rfl, e44.trans ((if_pos (by omega)).trans (if_neg (by have := hZ f (by omega) (by omega); omega)) : dek Z f q = 0).symm, md53, fr51⟩
      · skip
        refine go_aload_n X d_Model_define_41 rfl rfl ?_
        refine go_iconst (v := 2) X d_Model_define_42 ?_
        refine go_cVf (st2 := [vi 0]) (r := []) X k_Model_128 (m_fail l D md6 (c := 2)) h.1 rfl rfl (by omega) (Nat.le_of_ble_eq_true rfl) d_Model_define_43 (by omega) (by omega) rfl ?_
        generalize hM55 : m_s M1 r 0 2 = M54
        have e56 : M54 r 22 = r + 12 := by rw [← hM55]; exact (m_s_n (fun q => absurd q.2 (by decide))).trans e16
        have e57 : M54 r 0 = 2 := by rw [← hM55, m_s_s]
        have fr58 : fr (fun z => r ≤ z ∧ z ≤ r + 28) M M54 := fun z hz => by
          have hz1 : ¬ (r ≤ z ∧ z ≤ r + 28) := hz
          rw [← hM55]; exact (m_s_a (by omega)).trans (fr4 z hz)
        have rw59 : M54 (r + 12) = Z := by rw [← hM55]; exact (m_s_a (of_ne0 (by decide))).trans rw5
        clear e16 e3 fr4 rw5
        have md60 : mds sh M54 r := by rw [← hM55]; exact md6.put (by decide)
        refine go_iret X d_Model_define_46 rfl ?_ (by omega) (by omega) ?_
        · rfl
        exact ⟨0, rfl, fun hcz => absurd (((if_pos (by omega)).trans (if_pos (by have := hZ f (by omega) (by omega); omega)) : dek Z f q = 2).symm.trans hcz) (by decide), (by first | omega | (have e0 : inc Z f f = Z f + 1 := if_pos rfl; omega)), rfl, rfl, e57.trans ((if_pos (by omega)).trans (if_pos (by have := hZ f (by omega) (by omega); omega)) : dek Z f q = 2).symm, md60, fr58⟩
    · skip
      simp only [decide_eq_true_eq, decide_eq_false_iff_not] at hq14
      refine go_aload_n X d_Model_define_24 rfl rfl ?_
      refine go_iconst (v := 1) X d_Model_define_25 ?_
      refine go_cVf (st2 := [vi 0]) (r := []) X k_Model_128 (m_fail l D md6 (c := 1)) h.1 rfl rfl (by omega) (Nat.le_of_ble_eq_true rfl) d_Model_define_26 (by omega) (by omega) rfl ?_
      generalize hM62 : m_s M1 r 0 1 = M61
      have e63 : M61 r 0 = 1 := by rw [← hM62, m_s_s]
      have fr64 : fr (fun z => r ≤ z ∧ z ≤ r + 28) M M61 := fun z hz => by
        have hz1 : ¬ (r ≤ z ∧ z ≤ r + 28) := hz
        rw [← hM62]; exact (m_s_a (by omega)).trans (fr4 z hz)
      have rw65 : M61 (r + 12) = Z := by rw [← hM62]; exact (m_s_a (of_ne0 (by decide))).trans rw5
      clear e3 fr4 rw5
      have md66 : mds sh M61 r := by rw [← hM62]; exact md6.put (by decide)
      refine go_iret X d_Model_define_29 rfl ?_ (by omega) (by omega) ?_
      · rfl
      exact ⟨0, rfl, fun hcz => absurd ((if_neg (by omega) : dek Z f q = 1).symm.trans hcz) (by decide), (by first | omega | (have e0 : inc Z f f = Z f + 1 := if_pos rfl; omega)), rfl, rfl, e63.trans (if_neg (by omega) : dek Z f q = 1).symm, md66, fr64⟩
set_option maxHeartbeats 4000000 in
set_option maxRecDepth 100000 in
theorem m_clear (l : Launch) (D : va_G) {sh : s_S} {M : s_M} {sz r : Int} (h : mds sh M r) {f : Int} {Z : Int → Int} (hf : -2147483648 ≤ f ∧ f < 2147483648) (hZ : zok Z) (g1 : M (r + 12) = Z) : Sp l D y_Model_clear prog_14_method_48_code 3 (some .int) 3 0 0 [vr r, vi f] sh M sz (fun v' sh' M' sz' => ∃ b : Int, v' = some (vi b) ∧ ((clk f) = 0 → b = Z f) ∧ (-2147483648 ≤ b ∧ b < 2147483648) ∧ sh' = sh ∧ sz' = sz ∧ M' r 0 = clk f ∧ mds sh M' r ∧ fr (fun z => r ≤ z ∧ z ≤ r + 28) M M') := by
  have hr0 := h.2.1
  refine Sp.ofGo (own := "CiteForgeModel") (nm := "clear") (by decide) rfl rfl (Nat.le_of_ble_eq_true rfl) (lv := [(0, vr r), (1, vi f)]) rfl ?_
  intro g X
  refine go_aload_n X d_Model_clear_0 rfl rfl ?_
  refine go_iconst (v := 0) X d_Model_clear_1 ?_
  refine go_put (x := 0) (v := vi 0) X f_Model_95 h.1 rfl d_Model_clear_2 rfl rfl rfl ?_
  generalize hM2 : m_s M r 0 0 = M1
  have e3 : M1 r 0 = 0 := by rw [← hM2, m_s_s]
  have fr4 : fr (fun z => r ≤ z ∧ z ≤ r + 28) M M1 := fun z hz => by
    have hz1 : ¬ (r ≤ z ∧ z ≤ r + 28) := hz
    rw [← hM2]; exact (m_s_a (by omega))
  have rw5 : M1 (r + 12) = Z := by rw [← hM2]; exact (m_s_a (of_ne0 (by decide))).trans g1
  have md6 : mds sh M1 r := by rw [← hM2]; exact h.put (by decide)
  refine go_iload_n X d_Model_clear_5 rfl rfl ?_
  refine go_iconst (v := 0) X d_Model_clear_6 ?_
  refine go_iconst (v := 5) X d_Model_clear_7 ?_
  refine go_cSf (st2 := [vi (s_b (decide (0 ≤ f ∧ f ≤ 5)))]) (r := []) X k_Model_103 (m_within l D (by omega) (by omega) (by omega)) rfl rfl (by omega) (Nat.le_of_ble_eq_true rfl) d_Model_clear_8 (by omega) (by omega) rfl ?_
  refine go_ifb_ne (tgt := 20) X d_Model_clear_11 rfl (fun hq7 => ?_) (fun hq7 => ?_)
  · skip
    simp only [decide_eq_true_eq, decide_eq_false_iff_not] at hq7
    have hz0 := hZ f (by omega) (by omega)
    refine go_aload_n X d_Model_clear_20 rfl rfl ?_
    have sg8 : sh (r + 12) = some (.inr (.int, 6)) := (md6.2.2 11 _ rfl).1
    have e9 : M1 r 22 = r + 12 := (md6.2.2 11 _ rfl).2
    refine go_get (v := vr (r + 12)) X f_Model_44 h.1 rfl d_Model_clear_21 (s_varr e9 (by omega)) ?_
    refine go_iload_n X d_Model_clear_24 rfl rfl ?_
    refine go_iald X sg8 (by omega) (by omega) d_Model_clear_25 ?_
    refine go_top (v' := vi (Z f)) X (by rw [rw5]) ?_
    refine go_istore_n (lv' := [(2, vi (Z f)), (0, vr r), (1, vi f)]) X d_Model_clear_26 rfl (by decide) rfl ?_
    refine go_aload_n X d_Model_clear_27 rfl rfl ?_
    refine go_get (v := vr (r + 12)) X f_Model_44 h.1 rfl d_Model_clear_28 (s_varr e9 (by omega)) ?_
    refine go_iload_n X d_Model_clear_31 rfl rfl ?_
    refine go_iconst (v := 0) X d_Model_clear_32 ?_
    refine go_iast X sg8 (by omega) (by omega) d_Model_clear_33 ?_
    generalize hM11 : m_s M1 (r + 12) f 0 = M10
    have e12 : M10 r 0 = 0 := by rw [← hM11]; exact (m_s_n (fun q => absurd q.1 (of_ne1 (by decide)))).trans e3
    have e13 : M10 r 22 = r + 12 := by rw [← hM11]; exact (m_s_n (fun q => absurd q.1 (of_ne1 (by decide)))).trans e9
    have e14 : M10 (r + 12) f = 0 := by rw [← hM11, m_s_s]
    have fr15 : fr (fun z => r ≤ z ∧ z ≤ r + 28) M M10 := fun z hz => by
      have hz1 : ¬ (r ≤ z ∧ z ≤ r + 28) := hz
      rw [← hM11]; exact (m_s_a (by omega)).trans (fr4 z hz)
    have rw16 : M10 (r + 12) = rset Z f 0 := by rw [← hM11]; exact row_set rw5
    clear e3 e9 fr4 rw5
    have md17 : mds sh M10 r := by rw [← hM11]; exact md6.off (m_s_a (by omega))
    refine go_iload_n X d_Model_clear_34 rfl rfl ?_
    refine go_iret X d_Model_clear_35 rfl ?_ (by omega) (by omega) ?_
    · rfl
    exact ⟨(Z f), rfl, fun _ => rfl, (by omega), rfl, rfl, e12.trans (if_pos (by omega) : clk f = 0).symm, md17, fr15⟩
  · skip
    simp only [decide_eq_true_eq, decide_eq_false_iff_not] at hq7
    refine go_aload_n X d_Model_clear_14 rfl rfl ?_
    refine go_iconst (v := 1) X d_Model_clear_15 ?_
    refine go_cVf (st2 := [vi 0]) (r := []) X k_Model_128 (m_fail l D md6 (c := 1)) h.1 rfl rfl (by omega) (Nat.le_of_ble_eq_true rfl) d_Model_clear_16 (by omega) (by omega) rfl ?_
    generalize hM19 : m_s M1 r 0 1 = M18
    have e20 : M18 r 0 = 1 := by rw [← hM19, m_s_s]
    have fr21 : fr (fun z => r ≤ z ∧ z ≤ r + 28) M M18 := fun z hz => by
      have hz1 : ¬ (r ≤ z ∧ z ≤ r + 28) := hz
      rw [← hM19]; exact (m_s_a (by omega)).trans (fr4 z hz)
    have rw22 : M18 (r + 12) = Z := by rw [← hM19]; exact (m_s_a (of_ne0 (by decide))).trans rw5
    clear e3 fr4 rw5
    have md23 : mds sh M18 r := by rw [← hM19]; exact md6.put (by decide)
    refine go_iret X d_Model_clear_19 rfl ?_ (by omega) (by omega) ?_
    · rfl
    exact ⟨0, rfl, fun hcz => absurd ((if_neg (by omega) : clk f = 1).symm.trans hcz) (by decide), (by omega), rfl, rfl, e20.trans (if_neg (by omega) : clk f = 1).symm, md23, fr21⟩
