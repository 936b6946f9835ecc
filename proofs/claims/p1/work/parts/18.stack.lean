/-! Stack: at p, its array at p + 1, value i at p + 2 + 3 * i; w: the row of warnings. -/
abbrev sva : Type := Int × Int × List Int
def inc (g : Int → Int) (j : Int) : Int → Int := fun i => if i = j then g i + 1 else g i
def rset (g : Int → Int) (j x : Int) : Int → Int := fun i => if i = j then x else g i
theorem row_inc {M : s_M} {w j : Int} {W : Int → Int} (h : M w = W) : m_s M w j (W j + 1) w = inc W j := by
  subst h
  funext i
  unfold m_s inc
  by_cases hi : i = j
  · rw [if_pos ⟨rfl, hi⟩, if_pos hi, hi]
  · rw [if_neg (fun q => hi q.2), if_neg hi]
theorem row_set {M : s_M} {w j x : Int} {W : Int → Int} (h : M w = W) : m_s M w j x w = rset W j x := by
  subst h
  funext i
  unfold m_s rset
  by_cases hi : i = j
  · rw [if_pos ⟨rfl, hi⟩, if_pos hi]
  · rw [if_neg (fun q => hi q.2), if_neg hi]
def fset (f : Int → sva) (j : Int) (x : sva) : Int → sva := fun i => if i = j then x else f i
def svs (sh : s_S) (M : s_M) (p : Int) (f : Int → sva) : Prop := ∀ i : Int, 0 ≤ i → i < 12 → M (p + 1) i = p + 2 + 3 * i ∧ vv sh M (p + 2 + 3 * i) (f i).1 (f i).2.1 (f i).2.2
def stv (sh : s_S) (M : s_M) (p w n : Int) (f : Int → sva) : Prop := sh p = some (.inl (6, ts_Stack)) ∧ sh (p + 1) = some (.inr (.object "CiteForge$Value", 12)) ∧ sh w = some (.inr (.int, 10)) ∧ M p 0 = p + 1 ∧ M p 1 = w ∧ M p 2 = n ∧ (0 ≤ n ∧ n ≤ 12) ∧ 0 ≤ p ∧ 0 ≤ w ∧ w < p ∧ svs sh M p f
theorem svs.kept {sh : s_S} {M M' : s_M} {p : Int} {f : Int → sva} (h : svs sh M p f) (hf : ∀ z, p + 1 ≤ z → z ≤ p + 37 → M' z = M z) : svs sh M' p f := by
  intro i h0 h1
  obtain ⟨q1, q2⟩ := h i h0 h1
  exact ⟨by rw [hf (p + 1) (by omega) (by omega)]; exact q1, q2.kept (hf _ (by omega) (by omega)) (hf _ (by omega) (by omega)) (hf _ (by omega) (by omega))⟩
theorem svs.set {sh : s_S} {M M' : s_M} {p j : Int} {f : Int → sva} {x : sva} (h : svs sh M p f) (hj : 0 ≤ j ∧ j < 12) (hx : vv sh M' (p + 2 + 3 * j) x.1 x.2.1 x.2.2) (hf : ∀ z, p + 1 ≤ z → z ≤ p + 37 → ¬ (p + 2 + 3 * j ≤ z ∧ z ≤ p + 2 + 3 * j + 2) → M' z = M z) : svs sh M' p (fset f j x) := by
  intro i h0 h1
  obtain ⟨q1, q2⟩ := h i h0 h1
  refine ⟨by rw [hf (p + 1) (by omega) (by omega) (by omega)]; exact q1, ?_⟩
  unfold fset
  by_cases hi : i = j
  · subst hi
    rw [if_pos rfl]
    exact hx
  · rw [if_neg hi]
    exact q2.kept (hf _ (by omega) (by omega) (by omega)) (hf _ (by omega) (by omega) (by omega)) (hf _ (by omega) (by omega) (by omega))
theorem stv.kept {sh : s_S} {M M' : s_M} {p w n : Int} {f : Int → sva} (h : stv sh M p w n f) (hf : ∀ z, p ≤ z → z ≤ p + 37 → M' z = M z) : stv sh M' p w n f := by
  obtain ⟨q1, q2, q3, q4, q5, q6, q7, q8, q9, q10, q11⟩ := h
  have e := hf p (by omega) (by omega)
  exact ⟨q1, q2, q3, by rw [e]; exact q4, by rw [e]; exact q5, by rw [e]; exact q6, q7, q8, q9, q10, q11.kept (fun z h1 h2 => hf z (by omega) h2)⟩
set_option maxHeartbeats 4000000 in
set_option maxRecDepth 100000 in
theorem c_Stack_size (l : Launch) (D : va_G) {sh : s_S} {M : s_M} {sz p w n : Int} {f : Int → sva} {W : Int → Int} (h : stv sh M p w n f) (hW : M w = W) : Sp l D y_Stack_size prog_10_method_2_code 1 (some .int) 1 0 0 [vr p] sh M sz (pF (some (vi n)) sh M sz) := by
  obtain ⟨h1, h2, h3, h4, h5, h6, h7, h8, h9, h10, h11⟩ := h
  refine Sp.ofGo (own := "CiteForge$Stack") (nm := "size") (by decide) rfl rfl (Nat.le_of_ble_eq_true rfl) (lv := [(0, vr p)]) rfl ?_
  intro g X
  refine go_aload_n X d_Stack_size_0 rfl rfl ?_
  refine go_get (v := vi n) X f_Stack_22 h1 rfl d_Stack_size_1 (congrArg (s_v .int) h6) ?_
  refine go_iret X d_Stack_size_4 rfl ?_ (by omega) (by omega) ?_
  · rfl
  · exact ⟨rfl, rfl, rfl, rfl⟩
set_option maxHeartbeats 4000000 in
set_option maxRecDepth 100000 in
theorem c_Stack_has (l : Launch) (D : va_G) {sh : s_S} {M : s_M} {sz p w n : Int} {f : Int → sva} {W : Int → Int} (h : stv sh M p w n f) (hW : M w = W) {i : Int} (hi : -2147483648 ≤ i ∧ i < 2147483648) : Sp l D y_Stack_has prog_10_method_3_code 2 (some .boolean) 1 0 0 [vr p, vi i] sh M sz (pF (some (vi (s_b (decide (0 ≤ i ∧ i < n))))) sh M sz) := by
  obtain ⟨h1, h2, h3, h4, h5, h6, h7, h8, h9, h10, h11⟩ := h
  refine Sp.ofGo (own := "CiteForge$Stack") (nm := "has") (by decide) rfl rfl (Nat.le_of_ble_eq_true rfl) (lv := [(0, vr p), (1, vi i)]) rfl ?_
  intro g X
  refine go_iload_n X d_Stack_has_0 rfl rfl ?_
  refine go_if_lt (tgt := 16) X d_Stack_has_1 rfl (by omega) (fun hq1 => ?_) (fun hq1 => ?_)
  · skip
    refine go_iconst (v := 0) X d_Stack_has_16 ?_
    refine go_iret X d_Stack_has_17 rfl ?_ (by omega) (by omega) ?_
    · rfl
    · refine ⟨?_, rfl, rfl, rfl⟩
      have hb : decide (0 ≤ i ∧ i < n) = false := by simp only [decide_eq_true_eq, decide_eq_false_iff_not]; omega
      rw [hb]; rfl
  · skip
    refine go_iload_n X d_Stack_has_4 rfl rfl ?_
    refine go_aload_n X d_Stack_has_5 rfl rfl ?_
    refine go_get (v := vi n) X f_Stack_22 h1 rfl d_Stack_has_6 (congrArg (s_v .int) h6) ?_
    refine go_icmp_ge (tgt := 16) X d_Stack_has_9 rfl (by omega) (by omega) (fun hq2 => ?_) (fun hq2 => ?_)
    · skip
      refine go_iconst (v := 0) X d_Stack_has_16 ?_
      refine go_iret X d_Stack_has_17 rfl ?_ (by omega) (by omega) ?_
      · rfl
      · refine ⟨?_, rfl, rfl, rfl⟩
        have hb : decide (0 ≤ i ∧ i < n) = false := by simp only [decide_eq_true_eq, decide_eq_false_iff_not]; omega
        rw [hb]; rfl
    · skip
      refine go_iconst (v := 1) X d_Stack_has_12 ?_
      refine go_goto (tgt := 17) X d_Stack_has_13 rfl ?_
      refine go_iret X d_Stack_has_17 rfl ?_ (by omega) (by omega) ?_
      · rfl
      · refine ⟨?_, rfl, rfl, rfl⟩
        have hb : decide (0 ≤ i ∧ i < n) = true := by simp only [decide_eq_true_eq, decide_eq_false_iff_not]; omega
        rw [hb]; rfl
set_option maxHeartbeats 4000000 in
set_option maxRecDepth 100000 in
theorem c_Stack_fromTop (l : Launch) (D : va_G) {sh : s_S} {M : s_M} {sz p w n : Int} {f : Int → sva} {W : Int → Int} (h : stv sh M p w n f) (hW : M w = W) {i : Int} (hi : 0 ≤ i ∧ i < n) : Sp l D y_Stack_fromTop prog_10_method_4_code 2 (some (.object "CiteForge$Value")) 1 0 0 [vr p, vi i] sh M sz (pF (some (vr (p + 2 + 3 * (n - 1 - i)))) sh M sz) := by
  obtain ⟨h1, h2, h3, h4, h5, h6, h7, h8, h9, h10, h11⟩ := h
  refine Sp.ofGo (own := "CiteForge$Stack") (nm := "fromTop") (by decide) rfl rfl (Nat.le_of_ble_eq_true rfl) (lv := [(0, vr p), (1, vi i)]) rfl ?_
  intro g X
  refine go_aload_n X d_Stack_fromTop_0 rfl rfl ?_
  refine go_get (v := vr (p + 1)) X f_Stack_17 h1 rfl d_Stack_fromTop_1 (s_varr h4 (by omega)) ?_
  refine go_aload_n X d_Stack_fromTop_4 rfl rfl ?_
  refine go_get (v := vi n) X f_Stack_22 h1 rfl d_Stack_fromTop_5 (congrArg (s_v .int) h6) ?_
  refine go_iconst (v := 1) X d_Stack_fromTop_8 ?_
  refine go_isub X d_Stack_fromTop_9 ?_
  refine go_iload_n X d_Stack_fromTop_10 rfl rfl ?_
  refine go_isub X d_Stack_fromTop_11 ?_
  obtain ⟨q1, hq2⟩ : ∃ q, q = p + 2 + 3 * ((n - 1) - i) := ⟨_, rfl⟩
  have hv3 := h11 ((n - 1) - i) (by omega) (by omega)
  rw [← hq2] at hv3
  obtain ⟨e4, hv5⟩ := hv3
  obtain ⟨u6, u7, u8, u9, u10, u11, u12, u13⟩ := id hv5
  refine go_aald X h2 (by omega) (by omega) d_Stack_fromTop_12 ?_
  refine go_top (v' := vr q1) X (s_qref e4 (by omega)) ?_
  refine go_aret X d_Stack_fromTop_13 rfl (Or.inl ⟨_, rfl⟩) (Or.inr ⟨_, rfl⟩) (by omega) (by omega) ?_
  exact ⟨by rw [show q1 = p + 2 + 3 * (n - 1 - i) by omega], rfl, rfl, rfl⟩
/-- taking and giving, as functions -/
def pn (n : Int) : Int := if n = 0 then 0 else n - 1
def pv (n : Int) (f : Int → sva) : sva := if n = 0 then (0, 0, []) else f (n - 1)
def pW (n : Int) (W : Int → Int) : Int → Int := if n = 0 then inc W 7 else W
def qn (n : Int) (f : Int → sva) : Int := if n = 0 then 0 else if (f (n - 1)).1 = 0 then (f (n - 1)).2.1 else 0
def qW (n : Int) (f : Int → sva) (W : Int → Int) : Int → Int := if n = 0 then inc W 7 else if (f (n - 1)).1 = 0 then W else inc W 7
def qt (n : Int) (f : Int → sva) : List Int := if n = 0 then [] else if (f (n - 1)).1 = 0 then [] else (f (n - 1)).2.2
def tW (n : Int) (f : Int → sva) (W : Int → Int) : Int → Int := if n = 0 then inc W 7 else if (f (n - 1)).1 = 0 then inc W 7 else W
def gn (n : Int) : Int := if n < 12 then n + 1 else n
def gf (n : Int) (f : Int → sva) (x : sva) : Int → sva := if n < 12 then fset f n x else f
def gW (n : Int) (W : Int → Int) : Int → Int := if n < 12 then W else inc W 8
set_option maxHeartbeats 4000000 in
set_option maxRecDepth 100000 in
theorem c_Stack_dropAll (l : Launch) (D : va_G) {sh : s_S} {M : s_M} {sz p w n : Int} {f : Int → sva} {W : Int → Int} (h : stv sh M p w n f) (hW : M w = W) : Sp l D y_Stack_dropAll prog_10_method_5_code 2 (some .int) 1 0 0 [vr p] sh M sz (fun v sh' M' sz' => v = some (vi n) ∧ sh' = sh ∧ sz' = sz ∧ stv sh M' p w 0 f ∧ M' w = W ∧ fr (fun z => (p ≤ z ∧ z ≤ p + 37) ∨ z = w) M M') := by
  obtain ⟨h1, h2, h3, h4, h5, h6, h7, h8, h9, h10, h11⟩ := h
  refine Sp.ofGo (own := "CiteForge$Stack") (nm := "dropAll") (by decide) rfl rfl (Nat.le_of_ble_eq_true rfl) (lv := [(0, vr p)]) rfl ?_
  intro g X
  refine go_aload_n X d_Stack_dropAll_0 rfl rfl ?_
  refine go_get (v := vi n) X f_Stack_22 h1 rfl d_Stack_dropAll_1 (congrArg (s_v .int) h6) ?_
  refine go_istore_n (lv' := [(1, vi n), (0, vr p)]) X d_Stack_dropAll_4 rfl (by decide) rfl ?_
  refine go_aload_n X d_Stack_dropAll_5 rfl rfl ?_
  refine go_iconst (v := 0) X d_Stack_dropAll_6 ?_
  refine go_put (x := 0) (v := vi 0) X f_Stack_22 h1 rfl d_Stack_dropAll_7 rfl rfl rfl ?_
  generalize hM2 : m_s M p 2 0 = M1
  have e3 : M1 p 0 = p + 1 := by rw [← hM2]; exact (m_s_n (by omega)).trans h4
  have e4 : M1 p 1 = w := by rw [← hM2]; exact (m_s_n (by omega)).trans h5
  have e5 : M1 p 2 = 0 := by rw [← hM2, m_s_s]
  have fr6 : fr (fun z => (p ≤ z ∧ z ≤ p + 37) ∨ z = w) M M1 := fun z hz => by
    have hz1 : ¬ ((p ≤ z ∧ z ≤ p + 37) ∨ z = w) := hz
    rw [← hM2]; exact (m_s_a (by omega))
  have rw7 : M1 w = W := by rw [← hM2]; exact (m_s_a (by omega)).trans hW
  have sv8 : svs sh M1 p f := h11.kept (fun z hz1 hz2 => by rw [← hM2]; exact m_s_a (by omega))
  refine go_iload_n X d_Stack_dropAll_10 rfl rfl ?_
  refine go_iret X d_Stack_dropAll_11 rfl ?_ (by omega) (by omega) ?_
  · rfl
  · exact ⟨rfl, rfl, rfl, ⟨h1, h2, h3, e3, e4, e5.trans (by omega), (by omega), h8, h9, h10, sv8⟩, rw7, fr6⟩
set_option maxHeartbeats 4000000 in
set_option maxRecDepth 100000 in
theorem c_Stack_makeRoom (l : Launch) (D : va_G) {sh : s_S} {M : s_M} {sz p w n : Int} {f : Int → sva} {W : Int → Int} (h : stv sh M p w n f) (hW : M w = W) : Sp l D y_Stack_makeRoom prog_10_method_13_code 1 (some .boolean) 1 0 0 [vr p] sh M sz (fun v sh' M' sz' => v = some (vi (s_b (decide (n < 12)))) ∧ sh' = sh ∧ sz' = sz ∧ stv sh M' p w (gn n) f ∧ M' w = gW n W ∧ fr (fun z => (p ≤ z ∧ z ≤ p + 37) ∨ z = w) M M') := by
  obtain ⟨h1, h2, h3, h4, h5, h6, h7, h8, h9, h10, h11⟩ := h
  refine Sp.ofGo (own := "CiteForge$Stack") (nm := "makeRoom") (by decide) rfl rfl (Nat.le_of_ble_eq_true rfl) (lv := [(0, vr p)]) rfl ?_
  intro g X
  refine go_aload_n X d_Stack_makeRoom_0 rfl rfl ?_
  refine go_get (v := vi n) X f_Stack_22 h1 rfl d_Stack_makeRoom_1 (congrArg (s_v .int) h6) ?_
  refine go_bipush (v := 12) X d_Stack_makeRoom_4 (by decide) ?_
  refine go_icmp_lt (tgt := 22) X d_Stack_makeRoom_6 rfl (by omega) (by omega) (fun hq1 => ?_) (fun hq1 => ?_)
  · skip
    refine go_aload_n X d_Stack_makeRoom_22 rfl rfl ?_
    refine go_dup X d_Stack_makeRoom_23 rfl ?_
    refine go_get (v := vi n) X f_Stack_22 h1 rfl d_Stack_makeRoom_24 (congrArg (s_v .int) h6) ?_
    refine go_iconst (v := 1) X d_Stack_makeRoom_27 ?_
    refine go_iadd X d_Stack_makeRoom_28 ?_
    refine go_put (x := (n + 1)) (v := vi (n + 1)) X f_Stack_22 h1 rfl d_Stack_makeRoom_29 rfl rfl rfl ?_
    generalize hM3 : m_s M p 2 (n + 1) = M2
    have e4 : M2 p 0 = p + 1 := by rw [← hM3]; exact (m_s_n (by omega)).trans h4
    have e5 : M2 p 1 = w := by rw [← hM3]; exact (m_s_n (by omega)).trans h5
    have e6 : M2 p 2 = n + 1 := by rw [← hM3, m_s_s]
    have fr7 : fr (fun z => (p ≤ z ∧ z ≤ p + 37) ∨ z = w) M M2 := fun z hz => by
      have hz1 : ¬ ((p ≤ z ∧ z ≤ p + 37) ∨ z = w) := hz
      rw [← hM3]; exact (m_s_a (by omega))
    have rw8 : M2 w = W := by rw [← hM3]; exact (m_s_a (by omega)).trans hW
    have sv9 : svs sh M2 p f := h11.kept (fun z hz1 hz2 => by rw [← hM3]; exact m_s_a (by omega))
    refine go_iconst (v := 1) X d_Stack_makeRoom_32 ?_
    refine go_iret X d_Stack_makeRoom_33 rfl ?_ (by omega) (by omega) ?_
    · rfl
    · have g1 : gn n = n + 1 := if_pos (by omega)
      have g2 : gW n W = W := if_pos (by omega)
      have g3 : decide (n < 12) = true := by simp only [decide_eq_true_eq, decide_eq_false_iff_not]; omega
      rw [g1, g2, g3]
      exact ⟨rfl, rfl, rfl, ⟨h1, h2, h3, e4, e5, e6.trans (by omega), (by omega), h8, h9, h10, sv9⟩, rw8, fr7⟩
  · skip
    refine go_aload_n X d_Stack_makeRoom_9 rfl rfl ?_
    refine go_get (v := vr w) X f_Stack_9 h1 rfl d_Stack_makeRoom_10 (s_varr h5 (by omega)) ?_
    refine go_bipush (v := 8) X d_Stack_makeRoom_13 (by decide) ?_
    refine go_dup2 X d_Stack_makeRoom_15 rfl rfl ?_
    refine go_iald X h3 (by omega) (by omega) d_Stack_makeRoom_16 ?_
    refine go_top (v' := vi (W 8)) X (by rw [hW]) ?_
    refine go_iconst (v := 1) X d_Stack_makeRoom_17 ?_
    refine go_iadd X d_Stack_makeRoom_18 ?_
    refine go_iast X h3 (by omega) (by omega) d_Stack_makeRoom_19 ?_
    generalize hM11 : m_s M w 8 ((W 8) + 1) = M10
    have e12 : M10 p 0 = p + 1 := by rw [← hM11]; exact (m_s_n (by omega)).trans h4
    have e13 : M10 p 1 = w := by rw [← hM11]; exact (m_s_n (by omega)).trans h5
    have e14 : M10 p 2 = n := by rw [← hM11]; exact (m_s_n (by omega)).trans h6
    have e15 : M10 w 8 = (W 8) + 1 := by rw [← hM11, m_s_s]
    have fr16 : fr (fun z => (p ≤ z ∧ z ≤ p + 37) ∨ z = w) M M10 := fun z hz => by
      have hz1 : ¬ ((p ≤ z ∧ z ≤ p + 37) ∨ z = w) := hz
      rw [← hM11]; exact (m_s_a (by omega))
    have rw17 : M10 w = inc W 8 := by rw [← hM11]; exact row_inc hW
    have sv18 : svs sh M10 p f := h11.kept (fun z hz1 hz2 => by rw [← hM11]; exact m_s_a (by omega))
    refine go_iconst (v := 0) X d_Stack_makeRoom_20 ?_
    refine go_iret X d_Stack_makeRoom_21 rfl ?_ (by omega) (by omega) ?_
    · rfl
    · have g1 : gn n = n := if_neg (by omega)
      have g2 : gW n W = inc W 8 := if_neg (by omega)
      have g3 : decide (n < 12) = false := by simp only [decide_eq_true_eq, decide_eq_false_iff_not]; omega
      rw [g1, g2, g3]
      exact ⟨rfl, rfl, rfl, ⟨h1, h2, h3, e12, e13, e14.trans (by omega), (by omega), h8, h9, h10, sv18⟩, rw17, fr16⟩
set_option maxHeartbeats 4000000 in
set_option maxRecDepth 100000 in
theorem c_Stack_takeNumber (l : Launch) (D : va_G) {sh : s_S} {M : s_M} {sz p w n : Int} {f : Int → sva} {W : Int → Int} (h : stv sh M p w n f) (hW : M w = W) : Sp l D y_Stack_takeNumber prog_10_method_7_code 1 (some .int) 2 0 0 [vr p] sh M sz (fun v sh' M' sz' => v = some (vi (qn n f)) ∧ sh' = sh ∧ sz' = sz ∧ stv sh M' p w (pn n) f ∧ M' w = qW n f W ∧ fr (fun z => (p ≤ z ∧ z ≤ p + 37) ∨ z = w) M M') := by
  obtain ⟨h1, h2, h3, h4, h5, h6, h7, h8, h9, h10, h11⟩ := h
  refine Sp.ofGo (own := "CiteForge$Stack") (nm := "takeNumber") (by decide) rfl rfl (Nat.le_of_ble_eq_true rfl) (lv := [(0, vr p)]) rfl ?_
  intro g X
  refine go_aload_n X d_Stack_takeNumber_0 rfl rfl ?_
  refine go_get (v := vi n) X f_Stack_22 h1 rfl d_Stack_takeNumber_1 (congrArg (s_v .int) h6) ?_
  refine go_if_ne (tgt := 20) X d_Stack_takeNumber_4 rfl (by omega) (fun hq1 => ?_) (fun hq1 => ?_)
  · skip
    refine go_aload_n X d_Stack_takeNumber_20 rfl rfl ?_
    refine go_dup X d_Stack_takeNumber_21 rfl ?_
    refine go_get (v := vi n) X f_Stack_22 h1 rfl d_Stack_takeNumber_22 (congrArg (s_v .int) h6) ?_
    refine go_iconst (v := 1) X d_Stack_takeNumber_25 ?_
    refine go_isub X d_Stack_takeNumber_26 ?_
    refine go_put (x := (n - 1)) (v := vi (n - 1)) X f_Stack_22 h1 rfl d_Stack_takeNumber_27 rfl rfl rfl ?_
    generalize hM3 : m_s M p 2 (n - 1) = M2
    have e4 : M2 p 0 = p + 1 := by rw [← hM3]; exact (m_s_n (by omega)).trans h4
    have e5 : M2 p 1 = w := by rw [← hM3]; exact (m_s_n (by omega)).trans h5
    have e6 : M2 p 2 = n - 1 := by rw [← hM3, m_s_s]
    have fr7 : fr (fun z => (p ≤ z ∧ z ≤ p + 37) ∨ z = w) M M2 := fun z hz => by
      have hz1 : ¬ ((p ≤ z ∧ z ≤ p + 37) ∨ z = w) := hz
      rw [← hM3]; exact (m_s_a (by omega))
    have rw8 : M2 w = W := by rw [← hM3]; exact (m_s_a (by omega)).trans hW
    have sv9 : svs sh M2 p f := h11.kept (fun z hz1 hz2 => by rw [← hM3]; exact m_s_a (by omega))
    refine go_aload_n X d_Stack_takeNumber_30 rfl rfl ?_
    refine go_get (v := vr (p + 1)) X f_Stack_17 h1 rfl d_Stack_takeNumber_31 (s_varr e4 (by omega)) ?_
    refine go_aload_n X d_Stack_takeNumber_34 rfl rfl ?_
    refine go_get (v := vi (n - 1)) X f_Stack_22 h1 rfl d_Stack_takeNumber_35 (congrArg (s_v .int) e6) ?_
    obtain ⟨q10, hq11⟩ : ∃ q, q = p + 2 + 3 * (n - 1) := ⟨_, rfl⟩
    have hv12 := sv9 (n - 1) (by omega) (by omega)
    rw [← hq11] at hv12
    obtain ⟨e13, hv14⟩ := hv12
    obtain ⟨u15, u16, u17, u18, u19, u20, u21, u22⟩ := id hv14
    refine go_aald X h2 (by omega) (by omega) d_Stack_takeNumber_38 ?_
    refine go_top (v' := vr q10) X (s_qref e13 (by omega)) ?_
    refine go_cVf (st2 := [vi (s_b (decide ((f (n - 1)).1 = 0)))]) (r := []) X k_Stack_34 (c_Value_isNumber l D hv14) u15 rfl rfl (by omega) (Nat.le_of_ble_eq_true rfl) d_Stack_takeNumber_39 (by omega) (by omega) rfl ?_
    refine go_ifb_ne (tgt := 58) X d_Stack_takeNumber_42 rfl (fun hq23 => ?_) (fun hq23 => ?_)
    · skip
      refine go_aload_n X d_Stack_takeNumber_58 rfl rfl ?_
      refine go_get (v := vr (p + 1)) X f_Stack_17 h1 rfl d_Stack_takeNumber_59 (s_varr e4 (by omega)) ?_
      refine go_aload_n X d_Stack_takeNumber_62 rfl rfl ?_
      refine go_get (v := vi (n - 1)) X f_Stack_22 h1 rfl d_Stack_takeNumber_63 (congrArg (s_v .int) e6) ?_
      obtain ⟨q24, hq25⟩ : ∃ q, q = p + 2 + 3 * (n - 1) := ⟨_, rfl⟩
      have hv26 := sv9 (n - 1) (by omega) (by omega)
      rw [← hq25] at hv26
      obtain ⟨e27, hv28⟩ := hv26
      obtain ⟨u29, u30, u31, u32, u33, u34, u35, u36⟩ := id hv28
      refine go_aald X h2 (by omega) (by omega) d_Stack_takeNumber_66 ?_
      refine go_top (v' := vr q24) X (s_qref e27 (by omega)) ?_
      refine go_get (v := vi ((f (n - 1)).2.1)) X f_Stack_38 u29 rfl d_Stack_takeNumber_67 (congrArg (s_v .int) u33) ?_
      refine go_iret X d_Stack_takeNumber_70 rfl ?_ (by omega) (by omega) ?_
      · rfl
      · simp only [decide_eq_true_eq, decide_eq_false_iff_not] at hq23
        have g1 : pn n = n - 1 := if_neg (by omega)
        have g2 : qn n f = (f (n - 1)).2.1 := (if_neg (by omega)).trans (if_pos hq23)
        have g3 : qW n f W = W := (if_neg (by omega)).trans (if_pos hq23)
        rw [g1, g2, g3]
        exact ⟨rfl, rfl, rfl, ⟨h1, h2, h3, e4, e5, e6.trans (by omega), (by omega), h8, h9, h10, sv9⟩, rw8, fr7⟩
    · skip
      refine go_aload_n X d_Stack_takeNumber_45 rfl rfl ?_
      refine go_get (v := vr w) X f_Stack_9 h1 rfl d_Stack_takeNumber_46 (s_varr e5 (by omega)) ?_
      refine go_bipush (v := 7) X d_Stack_takeNumber_49 (by decide) ?_
      refine go_dup2 X d_Stack_takeNumber_51 rfl rfl ?_
      refine go_iald X h3 (by omega) (by omega) d_Stack_takeNumber_52 ?_
      refine go_top (v' := vi (W 7)) X (by rw [rw8]) ?_
      refine go_iconst (v := 1) X d_Stack_takeNumber_53 ?_
      refine go_iadd X d_Stack_takeNumber_54 ?_
      refine go_iast X h3 (by omega) (by omega) d_Stack_takeNumber_55 ?_
      generalize hM38 : m_s M2 w 7 ((W 7) + 1) = M37
      have e39 : M37 p 0 = p + 1 := by rw [← hM38]; exact (m_s_n (by omega)).trans e4
      have e40 : M37 p 1 = w := by rw [← hM38]; exact (m_s_n (by omega)).trans e5
      have e41 : M37 p 2 = n - 1 := by rw [← hM38]; exact (m_s_n (by omega)).trans e6
      have e42 : M37 (p + 1) (n - 1) = q10 := by rw [← hM38]; exact (m_s_n (by omega)).trans e13
      have e43 : M37 q10 0 = (f (n - 1)).1 := by rw [← hM38]; exact (m_s_n (by omega)).trans u18
      have e44 : M37 q10 1 = (f (n - 1)).2.1 := by rw [← hM38]; exact (m_s_n (by omega)).trans u19
      have e45 : M37 q10 2 = q10 + 1 := by rw [← hM38]; exact (m_s_n (by omega)).trans u16
      have e46 : M37 w 7 = (W 7) + 1 := by rw [← hM38, m_s_s]
      have tv47 := u17.kept (M' := M37) (by rw [← hM38]; exact m_s_a (by omega)) (by rw [← hM38]; exact m_s_a (by omega))
      have fr48 : fr (fun z => (p ≤ z ∧ z ≤ p + 37) ∨ z = w) M M37 := fun z hz => by
        have hz1 : ¬ ((p ≤ z ∧ z ≤ p + 37) ∨ z = w) := hz
        rw [← hM38]; exact (m_s_a (by omega)).trans (fr7 z hz)
      have rw49 : M37 w = inc W 7 := by rw [← hM38]; exact row_inc rw8
      have sv50 : svs sh M37 p f := sv9.kept (fun z hz1 hz2 => by rw [← hM38]; exact m_s_a (by omega))
      refine go_iconst (v := 0) X d_Stack_takeNumber_56 ?_
      refine go_iret X d_Stack_takeNumber_57 rfl ?_ (by omega) (by omega) ?_
      · rfl
      · simp only [decide_eq_true_eq, decide_eq_false_iff_not] at hq23
        have g1 : pn n = n - 1 := if_neg (by omega)
        have g2 : qn n f = 0 := (if_neg (by omega)).trans (if_neg hq23)
        have g3 : qW n f W = inc W 7 := (if_neg (by omega)).trans (if_neg hq23)
        rw [g1, g2, g3]
        exact ⟨rfl, rfl, rfl, ⟨h1, h2, h3, e39, e40, e41.trans (by omega), (by omega), h8, h9, h10, sv50⟩, rw49, fr48⟩
  · skip
    refine go_aload_n X d_Stack_takeNumber_7 rfl rfl ?_
    refine go_get (v := vr w) X f_Stack_9 h1 rfl d_Stack_takeNumber_8 (s_varr h5 (by omega)) ?_
    refine go_bipush (v := 7) X d_Stack_takeNumber_11 (by decide) ?_
    refine go_dup2 X d_Stack_takeNumber_13 rfl rfl ?_
    refine go_iald X h3 (by omega) (by omega) d_Stack_takeNumber_14 ?_
    refine go_top (v' := vi (W 7)) X (by rw [hW]) ?_
    refine go_iconst (v := 1) X d_Stack_takeNumber_15 ?_
    refine go_iadd X d_Stack_takeNumber_16 ?_
    refine go_iast X h3 (by omega) (by omega) d_Stack_takeNumber_17 ?_
    generalize hM52 : m_s M w 7 ((W 7) + 1) = M51
    have e53 : M51 p 0 = p + 1 := by rw [← hM52]; exact (m_s_n (by omega)).trans h4
    have e54 : M51 p 1 = w := by rw [← hM52]; exact (m_s_n (by omega)).trans h5
    have e55 : M51 p 2 = n := by rw [← hM52]; exact (m_s_n (by omega)).trans h6
    have e56 : M51 w 7 = (W 7) + 1 := by rw [← hM52, m_s_s]
    have fr57 : fr (fun z => (p ≤ z ∧ z ≤ p + 37) ∨ z = w) M M51 := fun z hz => by
      have hz1 : ¬ ((p ≤ z ∧ z ≤ p + 37) ∨ z = w) := hz
      rw [← hM52]; exact (m_s_a (by omega))
    have rw58 : M51 w = inc W 7 := by rw [← hM52]; exact row_inc hW
    have sv59 : svs sh M51 p f := h11.kept (fun z hz1 hz2 => by rw [← hM52]; exact m_s_a (by omega))
    refine go_iconst (v := 0) X d_Stack_takeNumber_18 ?_
    refine go_iret X d_Stack_takeNumber_19 rfl ?_ (by omega) (by omega) ?_
    · rfl
    · have g1 : pn n = 0 := if_pos (by omega)
      have g2 : qn n f = 0 := if_pos (by omega)
      have g3 : qW n f W = inc W 7 := if_pos (by omega)
      rw [g1, g2, g3]
      exact ⟨rfl, rfl, rfl, ⟨h1, h2, h3, e53, e54, e55.trans (by omega), (by omega), h8, h9, h10, sv59⟩, rw58, fr57⟩
set_option maxHeartbeats 4000000 in
set_option maxRecDepth 100000 in
theorem c_Stack_takeAny (l : Launch) (D : va_G) {sh : s_S} {M : s_M} {sz p w n : Int} {f : Int → sva} {W : Int → Int} (h : stv sh M p w n f) (hW : M w = W) {v k' n' : Int} {u : List Int} (hv : vv sh M v k' n' u) (hd1 : p + 37 < v) : Sp l D y_Stack_takeAny prog_10_method_6_code 2 none 4 0 0 [vr p, vr v] sh M sz (fun v' sh' M' sz' => v' = none ∧ sh' = sh ∧ sz' = sz ∧ stv sh M' p w (pn n) f ∧ vv sh M' v (pv n f).1 (pv n f).2.1 (pv n f).2.2 ∧ M' w = pW n W ∧ fr (fun z => (p ≤ z ∧ z ≤ p + 37) ∨ z = w ∨ (v ≤ z ∧ z ≤ v + 2)) M M') := by
  obtain ⟨h1, h2, h3, h4, h5, h6, h7, h8, h9, h10, h11⟩ := h
  have hv0 := hv.2.2.2.2.2.1
  refine Sp.ofGo (own := "CiteForge$Stack") (nm := "takeAny") (by decide) rfl rfl (Nat.le_of_ble_eq_true rfl) (lv := [(0, vr p), (1, vr v)]) rfl ?_
  intro g X
  refine go_aload_n X d_Stack_takeAny_0 rfl rfl ?_
  refine go_get (v := vi n) X f_Stack_22 h1 rfl d_Stack_takeAny_1 (congrArg (s_v .int) h6) ?_
  refine go_if_ne (tgt := 24) X d_Stack_takeAny_4 rfl (by omega) (fun hq1 => ?_) (fun hq1 => ?_)
  · skip
    refine go_aload_n X d_Stack_takeAny_24 rfl rfl ?_
    refine go_dup X d_Stack_takeAny_25 rfl ?_
    refine go_get (v := vi n) X f_Stack_22 h1 rfl d_Stack_takeAny_26 (congrArg (s_v .int) h6) ?_
    refine go_iconst (v := 1) X d_Stack_takeAny_29 ?_
    refine go_isub X d_Stack_takeAny_30 ?_
    refine go_put (x := (n - 1)) (v := vi (n - 1)) X f_Stack_22 h1 rfl d_Stack_takeAny_31 rfl rfl rfl ?_
    generalize hM3 : m_s M p 2 (n - 1) = M2
    have e4 : M2 p 0 = p + 1 := by rw [← hM3]; exact (m_s_n (by omega)).trans h4
    have e5 : M2 p 1 = w := by rw [← hM3]; exact (m_s_n (by omega)).trans h5
    have e6 : M2 p 2 = n - 1 := by rw [← hM3, m_s_s]
    have fr7 : fr (fun z => (p ≤ z ∧ z ≤ p + 37) ∨ z = w ∨ (v ≤ z ∧ z ≤ v + 2)) M M2 := fun z hz => by
      have hz1 : ¬ ((p ≤ z ∧ z ≤ p + 37) ∨ z = w ∨ (v ≤ z ∧ z ≤ v + 2)) := hz
      rw [← hM3]; exact (m_s_a (by omega))
    have rw8 : M2 w = W := by rw [← hM3]; exact (m_s_a (by omega)).trans hW
    have sv9 : svs sh M2 p f := h11.kept (fun z hz1 hz2 => by rw [← hM3]; exact m_s_a (by omega))
    have hv10 := hv.kept (M' := M2) (by rw [← hM3]; exact m_s_a (by omega)) (by rw [← hM3]; exact m_s_a (by omega)) (by rw [← hM3]; exact m_s_a (by omega))
    refine go_aload_n X d_Stack_takeAny_34 rfl rfl ?_
    refine go_aload_n X d_Stack_takeAny_35 rfl rfl ?_
    refine go_get (v := vr (p + 1)) X f_Stack_17 h1 rfl d_Stack_takeAny_36 (s_varr e4 (by omega)) ?_
    refine go_aload_n X d_Stack_takeAny_39 rfl rfl ?_
    refine go_get (v := vi (n - 1)) X f_Stack_22 h1 rfl d_Stack_takeAny_40 (congrArg (s_v .int) e6) ?_
    obtain ⟨q11, hq12⟩ : ∃ q, q = p + 2 + 3 * (n - 1) := ⟨_, rfl⟩
    have hv13 := sv9 (n - 1) (by omega) (by omega)
    rw [← hq12] at hv13
    obtain ⟨e14, hv15⟩ := hv13
    obtain ⟨u16, u17, u18, u19, u20, u21, u22, u23⟩ := id hv15
    refine go_aald X h2 (by omega) (by omega) d_Stack_takeAny_43 ?_
    refine go_top (v' := vr q11) X (s_qref e14 (by omega)) ?_
    refine go_cV (st2 := []) (r := []) X k_Stack_30 (c_Value_setTo l D hv10 hv15 (by omega)) hv.1 rfl rfl (by omega) (Nat.le_of_ble_eq_true rfl) d_Stack_takeAny_44 (by omega) (by omega) (fun v sh' M24 sz' hp25 => ?_)
    obtain ⟨e26, e27, e28, hv29, fr30⟩ := hp25
    subst e26
    rw [e27, e28]
    show Go g 0 0 sh M24 sz 47 [(0, vr p), (1, vr v)] []
    have e31 : M24 p 0 = p + 1 := (congrFun (fr30 p (by omega)) _).trans e4
    have e32 : M24 p 1 = w := (congrFun (fr30 p (by omega)) _).trans e5
    have e33 : M24 p 2 = n - 1 := (congrFun (fr30 p (by omega)) _).trans e6
    have e34 : M24 (p + 1) (n - 1) = q11 := (congrFun (fr30 (p + 1) (by omega)) _).trans e14
    have e35 : M24 q11 0 = (f (n - 1)).1 := (congrFun (fr30 q11 (by omega)) _).trans u19
    have e36 : M24 q11 1 = (f (n - 1)).2.1 := (congrFun (fr30 q11 (by omega)) _).trans u20
    have e37 : M24 q11 2 = q11 + 1 := (congrFun (fr30 q11 (by omega)) _).trans u17
    have tv38 := u18.kept (fr30 (q11 + 1) (by omega)) (fr30 (q11 + 1 + 1) (by omega))
    have fr39 : fr (fun z => (p ≤ z ∧ z ≤ p + 37) ∨ z = w ∨ (v ≤ z ∧ z ≤ v + 2)) M M24 := fun z hz => by
      have hz1 : ¬ ((p ≤ z ∧ z ≤ p + 37) ∨ z = w ∨ (v ≤ z ∧ z ≤ v + 2)) := hz
      exact (fr30 z (by omega)).trans (fr7 z hz)
    have rw40 : M24 w = W := (fr30 w (by omega)).trans rw8
    have sv41 : svs sh M24 p f := sv9.kept (fun z hz1 hz2 => fr30 z (by omega))
    have hv42 := hv15.kept (fr30 q11 (by omega)) (fr30 (q11 + 1) (by omega)) (fr30 (q11 + 2) (by omega))
    refine go_vret X d_Stack_takeAny_47 rfl (by omega) (by omega) ?_
    have g1 : pn n = n - 1 := if_neg (by omega)
    have g2 : pv n f = f (n - 1) := if_neg (by omega)
    have g3 : pW n W = W := if_neg (by omega)
    rw [g1, g2, g3]
    exact ⟨rfl, rfl, rfl, ⟨h1, h2, h3, e31, e32, e33.trans (by omega), (by omega), h8, h9, h10, sv41⟩, hv29, rw40, fr39⟩
  · skip
    refine go_aload_n X d_Stack_takeAny_7 rfl rfl ?_
    refine go_get (v := vr w) X f_Stack_9 h1 rfl d_Stack_takeAny_8 (s_varr h5 (by omega)) ?_
    refine go_bipush (v := 7) X d_Stack_takeAny_11 (by decide) ?_
    refine go_dup2 X d_Stack_takeAny_13 rfl rfl ?_
    refine go_iald X h3 (by omega) (by omega) d_Stack_takeAny_14 ?_
    refine go_top (v' := vi (W 7)) X (by rw [hW]) ?_
    refine go_iconst (v := 1) X d_Stack_takeAny_15 ?_
    refine go_iadd X d_Stack_takeAny_16 ?_
    refine go_iast X h3 (by omega) (by omega) d_Stack_takeAny_17 ?_
    generalize hM44 : m_s M w 7 ((W 7) + 1) = M43
    have e45 : M43 p 0 = p + 1 := by rw [← hM44]; exact (m_s_n (by omega)).trans h4
    have e46 : M43 p 1 = w := by rw [← hM44]; exact (m_s_n (by omega)).trans h5
    have e47 : M43 p 2 = n := by rw [← hM44]; exact (m_s_n (by omega)).trans h6
    have e48 : M43 w 7 = (W 7) + 1 := by rw [← hM44, m_s_s]
    have fr49 : fr (fun z => (p ≤ z ∧ z ≤ p + 37) ∨ z = w ∨ (v ≤ z ∧ z ≤ v + 2)) M M43 := fun z hz => by
      have hz1 : ¬ ((p ≤ z ∧ z ≤ p + 37) ∨ z = w ∨ (v ≤ z ∧ z ≤ v + 2)) := hz
      rw [← hM44]; exact (m_s_a (by omega))
    have rw50 : M43 w = inc W 7 := by rw [← hM44]; exact row_inc hW
    have sv51 : svs sh M43 p f := h11.kept (fun z hz1 hz2 => by rw [← hM44]; exact m_s_a (by omega))
    have hv52 := hv.kept (M' := M43) (by rw [← hM44]; exact m_s_a (by omega)) (by rw [← hM44]; exact m_s_a (by omega)) (by rw [← hM44]; exact m_s_a (by omega))
    refine go_aload_n X d_Stack_takeAny_18 rfl rfl ?_
    refine go_iconst (v := 0) X d_Stack_takeAny_19 ?_
    refine go_cV (st2 := []) (r := []) X k_Stack_26 (c_Value_setToNumber l D hv52 (by omega)) hv.1 rfl rfl (by omega) (Nat.le_of_ble_eq_true rfl) d_Stack_takeAny_20 (by omega) (by omega) (fun v sh' M53 sz' hp54 => ?_)
    obtain ⟨e55, e56, e57, hv58, fr59⟩ := hp54
    subst e55
    rw [e56, e57]
    show Go g 0 0 sh M53 sz 23 [(0, vr p), (1, vr v)] []
    have e60 : M53 p 0 = p + 1 := (congrFun (fr59 p (by omega)) _).trans e45
    have e61 : M53 p 1 = w := (congrFun (fr59 p (by omega)) _).trans e46
    have e62 : M53 p 2 = n := (congrFun (fr59 p (by omega)) _).trans e47
    have fr63 : fr (fun z => (p ≤ z ∧ z ≤ p + 37) ∨ z = w ∨ (v ≤ z ∧ z ≤ v + 2)) M M53 := fun z hz => by
      have hz1 : ¬ ((p ≤ z ∧ z ≤ p + 37) ∨ z = w ∨ (v ≤ z ∧ z ≤ v + 2)) := hz
      exact (fr59 z (by omega)).trans (fr49 z hz)
    have rw64 : M53 w = inc W 7 := (fr59 w (by omega)).trans rw50
    have sv65 : svs sh M53 p f := sv51.kept (fun z hz1 hz2 => fr59 z (by omega))
    refine go_vret X d_Stack_takeAny_23 rfl (by omega) (by omega) ?_
    have g1 : pn n = 0 := if_pos (by omega)
    have g2 : pv n f = (0, 0, []) := if_pos (by omega)
    have g3 : pW n W = inc W 7 := if_pos (by omega)
    rw [g1, g2, g3]
    exact ⟨rfl, rfl, rfl, ⟨h1, h2, h3, e60, e61, e62.trans (by omega), (by omega), h8, h9, h10, sv65⟩, hv58, rw64, fr63⟩
set_option maxHeartbeats 4000000 in
set_option maxRecDepth 100000 in
theorem c_Stack_takeText (l : Launch) (D : va_G) {sh : s_S} {M : s_M} {sz p w n : Int} {f : Int → sva} {W : Int → Int} (h : stv sh M p w n f) (hW : M w = W) {b : Int} {u : List Int} (hb : tv sh M b 60 u) (hd1 : p + 37 < b) : Sp l D y_Stack_takeText prog_10_method_8_code 2 none 4 0 0 [vr p, vr b] sh M sz (fun v' sh' M' sz' => v' = none ∧ sh' = sh ∧ sz' = sz ∧ stv sh M' p w (pn n) f ∧ tv sh M' b 60 (qt n f) ∧ M' w = tW n f W ∧ fr (fun z => (p ≤ z ∧ z ≤ p + 37) ∨ z = w ∨ (b ≤ z ∧ z ≤ b + 1)) M M') := by
  obtain ⟨h1, h2, h3, h4, h5, h6, h7, h8, h9, h10, h11⟩ := h
  have hb0 := hb.1.2.2.2.2.2.2.1
  refine Sp.ofGo (own := "CiteForge$Stack") (nm := "takeText") (by decide) rfl rfl (Nat.le_of_ble_eq_true rfl) (lv := [(0, vr p), (1, vr b)]) rfl ?_
  intro g X
  refine go_aload_n X d_Stack_takeText_0 rfl rfl ?_
  refine go_cV (st2 := []) (r := []) X k_Stack_41 (k_Text_reset l D hb) hb.1.1 rfl rfl (by omega) (Nat.le_of_ble_eq_true rfl) d_Stack_takeText_1 (by omega) (by omega) (fun v sh' M1 sz' hp2 => ?_)
  obtain ⟨e3, e4, e5, tv6, fr7⟩ := hp2
  subst e3
  rw [e4, e5]
  show Go g 0 0 sh M1 sz 4 [(0, vr p), (1, vr b)] []
  have e8 : M1 p 0 = p + 1 := (congrFun (fr7 p (by omega)) _).trans h4
  have e9 : M1 p 1 = w := (congrFun (fr7 p (by omega)) _).trans h5
  have e10 : M1 p 2 = n := (congrFun (fr7 p (by omega)) _).trans h6
  have fr11 : fr (fun z => (p ≤ z ∧ z ≤ p + 37) ∨ z = w ∨ (b ≤ z ∧ z ≤ b + 1)) M M1 := fun z hz => by
    have hz1 : ¬ ((p ≤ z ∧ z ≤ p + 37) ∨ z = w ∨ (b ≤ z ∧ z ≤ b + 1)) := hz
    exact (fr7 z (by omega))
  have rw12 : M1 w = W := (fr7 w (by omega)).trans hW
  have sv13 : svs sh M1 p f := h11.kept (fun z hz1 hz2 => fr7 z (by omega))
  refine go_aload_n X d_Stack_takeText_4 rfl rfl ?_
  refine go_get (v := vi n) X f_Stack_22 h1 rfl d_Stack_takeText_5 (congrArg (s_v .int) e10) ?_
  refine go_if_ne (tgt := 23) X d_Stack_takeText_8 rfl (by omega) (fun hq14 => ?_) (fun hq14 => ?_)
  · skip
    refine go_aload_n X d_Stack_takeText_23 rfl rfl ?_
    refine go_dup X d_Stack_takeText_24 rfl ?_
    refine go_get (v := vi n) X f_Stack_22 h1 rfl d_Stack_takeText_25 (congrArg (s_v .int) e10) ?_
    refine go_iconst (v := 1) X d_Stack_takeText_28 ?_
    refine go_isub X d_Stack_takeText_29 ?_
    refine go_put (x := (n - 1)) (v := vi (n - 1)) X f_Stack_22 h1 rfl d_Stack_takeText_30 rfl rfl rfl ?_
    generalize hM16 : m_s M1 p 2 (n - 1) = M15
    have e17 : M15 p 0 = p + 1 := by rw [← hM16]; exact (m_s_n (by omega)).trans e8
    have e18 : M15 p 1 = w := by rw [← hM16]; exact (m_s_n (by omega)).trans e9
    have e19 : M15 p 2 = n - 1 := by rw [← hM16, m_s_s]
    have tv20 := tv6.kept (M' := M15) (by rw [← hM16]; exact m_s_a (by omega)) (by rw [← hM16]; exact m_s_a (by omega))
    have fr21 : fr (fun z => (p ≤ z ∧ z ≤ p + 37) ∨ z = w ∨ (b ≤ z ∧ z ≤ b + 1)) M M15 := fun z hz => by
      have hz1 : ¬ ((p ≤ z ∧ z ≤ p + 37) ∨ z = w ∨ (b ≤ z ∧ z ≤ b + 1)) := hz
      rw [← hM16]; exact (m_s_a (by omega)).trans (fr11 z hz)
    have rw22 : M15 w = W := by rw [← hM16]; exact (m_s_a (by omega)).trans rw12
    have sv23 : svs sh M15 p f := sv13.kept (fun z hz1 hz2 => by rw [← hM16]; exact m_s_a (by omega))
    refine go_aload_n X d_Stack_takeText_33 rfl rfl ?_
    refine go_get (v := vr (p + 1)) X f_Stack_17 h1 rfl d_Stack_takeText_34 (s_varr e17 (by omega)) ?_
    refine go_aload_n X d_Stack_takeText_37 rfl rfl ?_
    refine go_get (v := vi (n - 1)) X f_Stack_22 h1 rfl d_Stack_takeText_38 (congrArg (s_v .int) e19) ?_
    obtain ⟨q24, hq25⟩ : ∃ q, q = p + 2 + 3 * (n - 1) := ⟨_, rfl⟩
    have hv26 := sv23 (n - 1) (by omega) (by omega)
    rw [← hq25] at hv26
    obtain ⟨e27, hv28⟩ := hv26
    obtain ⟨u29, u30, u31, u32, u33, u34, u35, u36⟩ := id hv28
    refine go_aald X h2 (by omega) (by omega) d_Stack_takeText_41 ?_
    refine go_top (v' := vr q24) X (s_qref e27 (by omega)) ?_
    refine go_cVf (st2 := [vi (s_b (decide ((f (n - 1)).1 = 0)))]) (r := []) X k_Stack_34 (c_Value_isNumber l D hv28) u29 rfl rfl (by omega) (Nat.le_of_ble_eq_true rfl) d_Stack_takeText_42 (by omega) (by omega) rfl ?_
    refine go_ifb_eq (tgt := 60) X d_Stack_takeText_45 rfl (fun hq37 => ?_) (fun hq37 => ?_)
    · skip
      refine go_aload_n X d_Stack_takeText_60 rfl rfl ?_
      refine go_aload_n X d_Stack_takeText_61 rfl rfl ?_
      refine go_get (v := vr (p + 1)) X f_Stack_17 h1 rfl d_Stack_takeText_62 (s_varr e17 (by omega)) ?_
      refine go_aload_n X d_Stack_takeText_65 rfl rfl ?_
      refine go_get (v := vi (n - 1)) X f_Stack_22 h1 rfl d_Stack_takeText_66 (congrArg (s_v .int) e19) ?_
      obtain ⟨q38, hq39⟩ : ∃ q, q = p + 2 + 3 * (n - 1) := ⟨_, rfl⟩
      have hv40 := sv23 (n - 1) (by omega) (by omega)
      rw [← hq39] at hv40
      obtain ⟨e41, hv42⟩ := hv40
      obtain ⟨u43, u44, u45, u46, u47, u48, u49, u50⟩ := id hv42
      refine go_aald X h2 (by omega) (by omega) d_Stack_takeText_69 ?_
      refine go_top (v' := vr q38) X (s_qref e41 (by omega)) ?_
      refine go_get (v := vr (q38 + 1)) X f_Stack_46 u43 rfl d_Stack_takeText_70 (s_vref u44 (by omega)) ?_
      refine go_cV (st2 := []) (r := []) X k_Stack_50 (c_Text_setTo l D tv20 u45 (by omega)) hb.1.1 rfl rfl (by omega) (Nat.le_of_ble_eq_true rfl) d_Stack_takeText_73 (by omega) (by omega) (fun v sh' M51 sz' hp52 => ?_)
      obtain ⟨e53, e54, e55, tv56, fr57⟩ := hp52
      subst e53
      rw [e54, e55]
      show Go g 0 0 sh M51 sz 76 [(0, vr p), (1, vr b)] []
      have e58 : M51 p 0 = p + 1 := (congrFun (fr57 p (by omega)) _).trans e17
      have e59 : M51 p 1 = w := (congrFun (fr57 p (by omega)) _).trans e18
      have e60 : M51 p 2 = n - 1 := (congrFun (fr57 p (by omega)) _).trans e19
      have e61 : M51 (p + 1) (n - 1) = q38 := (congrFun (fr57 (p + 1) (by omega)) _).trans e41
      have e62 : M51 q24 0 = (f (n - 1)).1 := (congrFun (fr57 q24 (by omega)) _).trans u32
      have e63 : M51 q24 1 = (f (n - 1)).2.1 := (congrFun (fr57 q24 (by omega)) _).trans u33
      have e64 : M51 q24 2 = q24 + 1 := (congrFun (fr57 q24 (by omega)) _).trans u30
      have e65 : M51 q38 0 = (f (n - 1)).1 := (congrFun (fr57 q38 (by omega)) _).trans u46
      have e66 : M51 q38 1 = (f (n - 1)).2.1 := (congrFun (fr57 q38 (by omega)) _).trans u47
      have e67 : M51 q38 2 = q38 + 1 := (congrFun (fr57 q38 (by omega)) _).trans u44
      have tv68 := u31.kept (fr57 (q24 + 1) (by omega)) (fr57 (q24 + 1 + 1) (by omega))
      have tv69 := u45.kept (fr57 (q38 + 1) (by omega)) (fr57 (q38 + 1 + 1) (by omega))
      have fr70 : fr (fun z => (p ≤ z ∧ z ≤ p + 37) ∨ z = w ∨ (b ≤ z ∧ z ≤ b + 1)) M M51 := fun z hz => by
        have hz1 : ¬ ((p ≤ z ∧ z ≤ p + 37) ∨ z = w ∨ (b ≤ z ∧ z ≤ b + 1)) := hz
        exact (fr57 z (by omega)).trans (fr21 z hz)
      have rw71 : M51 w = W := (fr57 w (by omega)).trans rw22
      have sv72 : svs sh M51 p f := sv23.kept (fun z hz1 hz2 => fr57 z (by omega))
      refine go_vret X d_Stack_takeText_76 rfl (by omega) (by omega) ?_
      simp only [decide_eq_true_eq, decide_eq_false_iff_not] at hq37
      have g1 : pn n = n - 1 := if_neg (by omega)
      have g2 : qt n f = (f (n - 1)).2.2.take 60 := ((if_neg (by omega)).trans (if_neg hq37)).trans (take60 (h11 (n - 1) (by omega) (by omega)).2.2.2.1.len.1).symm
      have g3 : tW n f W = W := (if_neg (by omega)).trans (if_neg hq37)
      rw [g1, g2, g3]
      exact ⟨rfl, rfl, rfl, ⟨h1, h2, h3, e58, e59, e60.trans (by omega), (by omega), h8, h9, h10, sv72⟩, tv56, rw71, fr70⟩
    · skip
      refine go_aload_n X d_Stack_takeText_48 rfl rfl ?_
      refine go_get (v := vr w) X f_Stack_9 h1 rfl d_Stack_takeText_49 (s_varr e18 (by omega)) ?_
      refine go_bipush (v := 7) X d_Stack_takeText_52 (by decide) ?_
      refine go_dup2 X d_Stack_takeText_54 rfl rfl ?_
      refine go_iald X h3 (by omega) (by omega) d_Stack_takeText_55 ?_
      refine go_top (v' := vi (W 7)) X (by rw [rw22]) ?_
      refine go_iconst (v := 1) X d_Stack_takeText_56 ?_
      refine go_iadd X d_Stack_takeText_57 ?_
      refine go_iast X h3 (by omega) (by omega) d_Stack_takeText_58 ?_
      generalize hM74 : m_s M15 w 7 ((W 7) + 1) = M73
      have e75 : M73 p 0 = p + 1 := by rw [← hM74]; exact (m_s_n (by omega)).trans e17
      have e76 : M73 p 1 = w := by rw [← hM74]; exact (m_s_n (by omega)).trans e18
      have e77 : M73 p 2 = n - 1 := by rw [← hM74]; exact (m_s_n (by omega)).trans e19
      have e78 : M73 (p + 1) (n - 1) = q24 := by rw [← hM74]; exact (m_s_n (by omega)).trans e27
      have e79 : M73 q24 0 = (f (n - 1)).1 := by rw [← hM74]; exact (m_s_n (by omega)).trans u32
      have e80 : M73 q24 1 = (f (n - 1)).2.1 := by rw [← hM74]; exact (m_s_n (by omega)).trans u33
      have e81 : M73 q24 2 = q24 + 1 := by rw [← hM74]; exact (m_s_n (by omega)).trans u30
      have e82 : M73 w 7 = (W 7) + 1 := by rw [← hM74, m_s_s]
      have tv83 := tv20.kept (M' := M73) (by rw [← hM74]; exact m_s_a (by omega)) (by rw [← hM74]; exact m_s_a (by omega))
      have tv84 := u31.kept (M' := M73) (by rw [← hM74]; exact m_s_a (by omega)) (by rw [← hM74]; exact m_s_a (by omega))
      have fr85 : fr (fun z => (p ≤ z ∧ z ≤ p + 37) ∨ z = w ∨ (b ≤ z ∧ z ≤ b + 1)) M M73 := fun z hz => by
        have hz1 : ¬ ((p ≤ z ∧ z ≤ p + 37) ∨ z = w ∨ (b ≤ z ∧ z ≤ b + 1)) := hz
        rw [← hM74]; exact (m_s_a (by omega)).trans (fr21 z hz)
      have rw86 : M73 w = inc W 7 := by rw [← hM74]; exact row_inc rw22
      have sv87 : svs sh M73 p f := sv23.kept (fun z hz1 hz2 => by rw [← hM74]; exact m_s_a (by omega))
      have hv88 := hv28.kept (M' := M73) (by rw [← hM74]; exact m_s_a (by omega)) (by rw [← hM74]; exact m_s_a (by omega)) (by rw [← hM74]; exact m_s_a (by omega))
      refine go_vret X d_Stack_takeText_59 rfl (by omega) (by omega) ?_
      simp only [decide_eq_true_eq, decide_eq_false_iff_not] at hq37
      have g1 : pn n = n - 1 := if_neg (by omega)
      have g2 : qt n f = [] := (if_neg (by omega)).trans (if_pos hq37)
      have g3 : tW n f W = inc W 7 := (if_neg (by omega)).trans (if_pos hq37)
      rw [g1, g2, g3]
      exact ⟨rfl, rfl, rfl, ⟨h1, h2, h3, e75, e76, e77.trans (by omega), (by omega), h8, h9, h10, sv87⟩, tv83, rw86, fr85⟩
  · skip
    refine go_aload_n X d_Stack_takeText_11 rfl rfl ?_
    refine go_get (v := vr w) X f_Stack_9 h1 rfl d_Stack_takeText_12 (s_varr e9 (by omega)) ?_
    refine go_bipush (v := 7) X d_Stack_takeText_15 (by decide) ?_
    refine go_dup2 X d_Stack_takeText_17 rfl rfl ?_
    refine go_iald X h3 (by omega) (by omega) d_Stack_takeText_18 ?_
    refine go_top (v' := vi (W 7)) X (by rw [rw12]) ?_
    refine go_iconst (v := 1) X d_Stack_takeText_19 ?_
    refine go_iadd X d_Stack_takeText_20 ?_
    refine go_iast X h3 (by omega) (by omega) d_Stack_takeText_21 ?_
    generalize hM90 : m_s M1 w 7 ((W 7) + 1) = M89
    have e91 : M89 p 0 = p + 1 := by rw [← hM90]; exact (m_s_n (by omega)).trans e8
    have e92 : M89 p 1 = w := by rw [← hM90]; exact (m_s_n (by omega)).trans e9
    have e93 : M89 p 2 = n := by rw [← hM90]; exact (m_s_n (by omega)).trans e10
    have e94 : M89 w 7 = (W 7) + 1 := by rw [← hM90, m_s_s]
    have tv95 := tv6.kept (M' := M89) (by rw [← hM90]; exact m_s_a (by omega)) (by rw [← hM90]; exact m_s_a (by omega))
    have fr96 : fr (fun z => (p ≤ z ∧ z ≤ p + 37) ∨ z = w ∨ (b ≤ z ∧ z ≤ b + 1)) M M89 := fun z hz => by
      have hz1 : ¬ ((p ≤ z ∧ z ≤ p + 37) ∨ z = w ∨ (b ≤ z ∧ z ≤ b + 1)) := hz
      rw [← hM90]; exact (m_s_a (by omega)).trans (fr11 z hz)
    have rw97 : M89 w = inc W 7 := by rw [← hM90]; exact row_inc rw12
    have sv98 : svs sh M89 p f := sv13.kept (fun z hz1 hz2 => by rw [← hM90]; exact m_s_a (by omega))
    refine go_vret X d_Stack_takeText_22 rfl (by omega) (by omega) ?_
    have g1 : pn n = 0 := if_pos (by omega)
    have g2 : qt n f = [] := if_pos (by omega)
    have g3 : tW n f W = inc W 7 := if_pos (by omega)
    rw [g1, g2, g3]
    exact ⟨rfl, rfl, rfl, ⟨h1, h2, h3, e91, e92, e93.trans (by omega), (by omega), h8, h9, h10, sv98⟩, tv95, rw97, fr96⟩
set_option maxHeartbeats 4000000 in
set_option maxRecDepth 100000 in
theorem c_Stack_giveNumber (l : Launch) (D : va_G) {sh : s_S} {M : s_M} {sz p w n : Int} {f : Int → sva} {W : Int → Int} (h : stv sh M p w n f) (hW : M w = W) {q : Int} (hq : -2147483648 ≤ q ∧ q < 2147483648) : Sp l D y_Stack_giveNumber prog_10_method_9_code 2 none 4 0 0 [vr p, vi q] sh M sz (fun v' sh' M' sz' => v' = none ∧ sh' = sh ∧ sz' = sz ∧ stv sh M' p w (gn n) (gf n f (0, q, [])) ∧ M' w = gW n W ∧ fr (fun z => (p ≤ z ∧ z ≤ p + 37) ∨ z = w) M M') := by
  obtain ⟨h1, h2, h3, h4, h5, h6, h7, h8, h9, h10, h11⟩ := h
  refine Sp.ofGo (own := "CiteForge$Stack") (nm := "giveNumber") (by decide) rfl rfl (Nat.le_of_ble_eq_true rfl) (lv := [(0, vr p), (1, vi q)]) rfl ?_
  intro g X
  refine go_aload_n X d_Stack_giveNumber_0 rfl rfl ?_
  have hs0 : stv sh M p w n f := ⟨h1, h2, h3, h4, h5, h6, h7, h8, h9, h10, h11⟩
  refine go_cV (st2 := []) (r := []) X k_Stack_53 (c_Stack_makeRoom l D hs0 hW) h1 rfl rfl (by omega) (Nat.le_of_ble_eq_true rfl) d_Stack_giveNumber_1 (by omega) (by omega) (fun v sh' M1 sz' hp2 => ?_)
  obtain ⟨e3, e4, e5, hs6, rw7, fr8⟩ := hp2
  subst e3
  rw [e4, e5]
  show Go g 0 0 sh M1 sz 4 [(0, vr p), (1, vi q)] [vi (s_b (decide (n < 12)))]
  obtain ⟨u9, u10, u11, u12, u13, u14, u15, u16, u17, u18, u19⟩ := hs6
  refine go_ifb_eq (tgt := 22) X d_Stack_giveNumber_4 rfl (fun hq20 => ?_) (fun hq20 => ?_)
  · skip
    refine go_vret X d_Stack_giveNumber_22 rfl (by omega) (by omega) ?_
    simp only [decide_eq_false_iff_not] at hq20
    have g3 : gf n f (0, q, []) = f := if_neg (by omega)
    rw [g3]
    exact ⟨rfl, rfl, rfl, ⟨h1, h2, h3, u12, u13, u14, (by have : gn n = n := if_neg (by omega); omega), h8, h9, h10, u19⟩, rw7, fr8⟩
  · skip
    simp only [decide_eq_true_eq] at hq20
    have g1 : gn n = n + 1 := if_pos (by omega)
    have g2 : gW n W = W := if_pos (by omega)
    have e21 := u14.trans g1
    have rw22 := rw7.trans g2
    refine go_aload_n X d_Stack_giveNumber_7 rfl rfl ?_
    refine go_get (v := vr (p + 1)) X f_Stack_17 h1 rfl d_Stack_giveNumber_8 (s_varr u12 (by omega)) ?_
    refine go_aload_n X d_Stack_giveNumber_11 rfl rfl ?_
    refine go_get (v := vi (n + 1)) X f_Stack_22 h1 rfl d_Stack_giveNumber_12 (congrArg (s_v .int) e21) ?_
    refine go_iconst (v := 1) X d_Stack_giveNumber_15 ?_
    refine go_isub X d_Stack_giveNumber_16 ?_
    obtain ⟨q23, hq24⟩ : ∃ q, q = p + 2 + 3 * ((n + 1) - 1) := ⟨_, rfl⟩
    have hv25 := u19 ((n + 1) - 1) (by omega) (by omega)
    rw [← hq24] at hv25
    obtain ⟨e26, hv27⟩ := hv25
    obtain ⟨u28, u29, u30, u31, u32, u33, u34, u35⟩ := id hv27
    refine go_aald X h2 (by omega) (by omega) d_Stack_giveNumber_17 ?_
    refine go_top (v' := vr q23) X (s_qref e26 (by omega)) ?_
    refine go_iload_n X d_Stack_giveNumber_18 rfl rfl ?_
    refine go_cV (st2 := []) (r := []) X k_Stack_26 (c_Value_setToNumber l D hv27 (by omega)) u28 rfl rfl (by omega) (Nat.le_of_ble_eq_true rfl) d_Stack_giveNumber_19 (by omega) (by omega) (fun v sh' M36 sz' hp37 => ?_)
    obtain ⟨e38, e39, e40, hv41, fr42⟩ := hp37
    subst e38
    rw [e39, e40]
    show Go g 0 0 sh M36 sz 22 [(0, vr p), (1, vi q)] []
    have e43 : M36 p 0 = p + 1 := (congrFun (fr42 p (by omega)) _).trans u12
    have e44 : M36 p 1 = w := (congrFun (fr42 p (by omega)) _).trans u13
    have e45 : M36 p 2 = n + 1 := (congrFun (fr42 p (by omega)) _).trans e21
    have e46 : M36 (p + 1) ((n + 1) - 1) = q23 := (congrFun (fr42 (p + 1) (by omega)) _).trans e26
    have fr47 : fr (fun z => (p ≤ z ∧ z ≤ p + 37) ∨ z = w) M M36 := fun z hz => by
      have hz1 : ¬ ((p ≤ z ∧ z ≤ p + 37) ∨ z = w) := hz
      exact (fr42 z (by omega)).trans (fr8 z hz)
    have rw48 : M36 w = W := (fr42 w (by omega)).trans rw22
    have sv49 : svs sh M36 p (fset f ((n + 1) - 1) (0, q, [])) := u19.set (by omega) (by rw [← hq24]; exact hv41) (fun z hz1 hz2 hz3 => fr42 z (by omega))
    refine go_vret X d_Stack_giveNumber_22 rfl (by omega) (by omega) ?_
    have g3 : gf n f (0, q, []) = fset f n (0, q, []) := if_pos (by omega)
    rw [g1, g2, g3]
    have sv9 := sv49
    rw [show (n + 1) - 1 = n by omega] at sv9
    exact ⟨rfl, rfl, rfl, ⟨h1, h2, h3, e43, e44, e45, (by omega), h8, h9, h10, sv9⟩, rw48, fr47⟩
set_option maxHeartbeats 4000000 in
set_option maxRecDepth 100000 in
theorem c_Stack_giveAny (l : Launch) (D : va_G) {sh : s_S} {M : s_M} {sz p w n : Int} {f : Int → sva} {W : Int → Int} (h : stv sh M p w n f) (hW : M w = W) {v k' n' : Int} {u : List Int} (hv : vv sh M v k' n' u) (hd1 : p + 37 < v) : Sp l D y_Stack_giveAny prog_10_method_12_code 2 none 4 0 0 [vr p, vr v] sh M sz (fun v' sh' M' sz' => v' = none ∧ sh' = sh ∧ sz' = sz ∧ stv sh M' p w (gn n) (gf n f (k', n', u)) ∧ M' w = gW n W ∧ fr (fun z => (p ≤ z ∧ z ≤ p + 37) ∨ z = w) M M') := by
  obtain ⟨h1, h2, h3, h4, h5, h6, h7, h8, h9, h10, h11⟩ := h
  refine Sp.ofGo (own := "CiteForge$Stack") (nm := "giveAny") (by decide) rfl rfl (Nat.le_of_ble_eq_true rfl) (lv := [(0, vr p), (1, vr v)]) rfl ?_
  intro g X
  refine go_aload_n X d_Stack_giveAny_0 rfl rfl ?_
  have hs0 : stv sh M p w n f := ⟨h1, h2, h3, h4, h5, h6, h7, h8, h9, h10, h11⟩
  refine go_cV (st2 := []) (r := []) X k_Stack_53 (c_Stack_makeRoom l D hs0 hW) h1 rfl rfl (by omega) (Nat.le_of_ble_eq_true rfl) d_Stack_giveAny_1 (by omega) (by omega) (fun v sh' M1 sz' hp2 => ?_)
  obtain ⟨e3, e4, e5, hs6, rw7, fr8⟩ := hp2
  subst e3
  rw [e4, e5]
  show Go g 0 0 sh M1 sz 4 [(0, vr p), (1, vr v)] [vi (s_b (decide (n < 12)))]
  obtain ⟨u9, u10, u11, u12, u13, u14, u15, u16, u17, u18, u19⟩ := hs6
  have hv20 := hv.kept (fr8 v (by omega)) (fr8 (v + 1) (by omega)) (fr8 (v + 2) (by omega))
  refine go_ifb_eq (tgt := 22) X d_Stack_giveAny_4 rfl (fun hq21 => ?_) (fun hq21 => ?_)
  · skip
    refine go_vret X d_Stack_giveAny_22 rfl (by omega) (by omega) ?_
    simp only [decide_eq_false_iff_not] at hq21
    have g3 : gf n f (k', n', u) = f := if_neg (by omega)
    rw [g3]
    exact ⟨rfl, rfl, rfl, ⟨h1, h2, h3, u12, u13, u14, (by have : gn n = n := if_neg (by omega); omega), h8, h9, h10, u19⟩, rw7, fr8⟩
  · skip
    simp only [decide_eq_true_eq] at hq21
    have g1 : gn n = n + 1 := if_pos (by omega)
    have g2 : gW n W = W := if_pos (by omega)
    have e22 := u14.trans g1
    have rw23 := rw7.trans g2
    refine go_aload_n X d_Stack_giveAny_7 rfl rfl ?_
    refine go_get (v := vr (p + 1)) X f_Stack_17 h1 rfl d_Stack_giveAny_8 (s_varr u12 (by omega)) ?_
    refine go_aload_n X d_Stack_giveAny_11 rfl rfl ?_
    refine go_get (v := vi (n + 1)) X f_Stack_22 h1 rfl d_Stack_giveAny_12 (congrArg (s_v .int) e22) ?_
    refine go_iconst (v := 1) X d_Stack_giveAny_15 ?_
    refine go_isub X d_Stack_giveAny_16 ?_
    obtain ⟨q24, hq25⟩ : ∃ q, q = p + 2 + 3 * ((n + 1) - 1) := ⟨_, rfl⟩
    have hv26 := u19 ((n + 1) - 1) (by omega) (by omega)
    rw [← hq25] at hv26
    obtain ⟨e27, hv28⟩ := hv26
    obtain ⟨u29, u30, u31, u32, u33, u34, u35, u36⟩ := id hv28
    refine go_aald X h2 (by omega) (by omega) d_Stack_giveAny_17 ?_
    refine go_top (v' := vr q24) X (s_qref e27 (by omega)) ?_
    refine go_aload_n X d_Stack_giveAny_18 rfl rfl ?_
    refine go_cV (st2 := []) (r := []) X k_Stack_30 (c_Value_setTo l D hv28 hv20 (by omega)) u29 rfl rfl (by omega) (Nat.le_of_ble_eq_true rfl) d_Stack_giveAny_19 (by omega) (by omega) (fun v sh' M37 sz' hp38 => ?_)
    obtain ⟨e39, e40, e41, hv42, fr43⟩ := hp38
    subst e39
    rw [e40, e41]
    show Go g 0 0 sh M37 sz 22 [(0, vr p), (1, vr v)] []
    have e44 : M37 p 0 = p + 1 := (congrFun (fr43 p (by omega)) _).trans u12
    have e45 : M37 p 1 = w := (congrFun (fr43 p (by omega)) _).trans u13
    have e46 : M37 p 2 = n + 1 := (congrFun (fr43 p (by omega)) _).trans e22
    have e47 : M37 (p + 1) ((n + 1) - 1) = q24 := (congrFun (fr43 (p + 1) (by omega)) _).trans e27
    have fr48 : fr (fun z => (p ≤ z ∧ z ≤ p + 37) ∨ z = w) M M37 := fun z hz => by
      have hz1 : ¬ ((p ≤ z ∧ z ≤ p + 37) ∨ z = w) := hz
      exact (fr43 z (by omega)).trans (fr8 z hz)
    have rw49 : M37 w = W := (fr43 w (by omega)).trans rw23
    have sv50 : svs sh M37 p (fset f ((n + 1) - 1) (k', n', u)) := u19.set (by omega) (by rw [← hq25]; exact hv42) (fun z hz1 hz2 hz3 => fr43 z (by omega))
    have hv51 := hv20.kept (fr43 v (by omega)) (fr43 (v + 1) (by omega)) (fr43 (v + 2) (by omega))
    refine go_vret X d_Stack_giveAny_22 rfl (by omega) (by omega) ?_
    have g3 : gf n f (k', n', u) = fset f n (k', n', u) := if_pos (by omega)
    rw [g1, g2, g3]
    have sv9 := sv50
    rw [show (n + 1) - 1 = n by omega] at sv9
    exact ⟨rfl, rfl, rfl, ⟨h1, h2, h3, e44, e45, e46, (by omega), h8, h9, h10, sv9⟩, rw49, fr48⟩
set_option maxHeartbeats 4000000 in
set_option maxRecDepth 100000 in
theorem c_Stack_giveText (l : Launch) (D : va_G) {sh : s_S} {M : s_M} {sz p w n : Int} {f : Int → sva} {W : Int → Int} (h : stv sh M p w n f) (hW : M w = W) {b : Int} {K : Nat} {u : List Int} (hb : tv sh M b K u) (hd1 : p + 37 < b) : Sp l D y_Stack_giveText prog_10_method_11_code 2 none 4 0 0 [vr p, vr b] sh M sz (fun v' sh' M' sz' => v' = none ∧ sh' = sh ∧ sz' = sz ∧ stv sh M' p w (gn n) (gf n f (1, 0, (u.take 60))) ∧ M' w = gW n W ∧ fr (fun z => (p ≤ z ∧ z ≤ p + 37) ∨ z = w) M M') := by
  obtain ⟨h1, h2, h3, h4, h5, h6, h7, h8, h9, h10, h11⟩ := h
  refine Sp.ofGo (own := "CiteForge$Stack") (nm := "giveText") (by decide) rfl rfl (Nat.le_of_ble_eq_true rfl) (lv := [(0, vr p), (1, vr b)]) rfl ?_
  intro g X
  refine go_aload_n X d_Stack_giveText_0 rfl rfl ?_
  have hs0 : stv sh M p w n f := ⟨h1, h2, h3, h4, h5, h6, h7, h8, h9, h10, h11⟩
  refine go_cV (st2 := []) (r := []) X k_Stack_53 (c_Stack_makeRoom l D hs0 hW) h1 rfl rfl (by omega) (Nat.le_of_ble_eq_true rfl) d_Stack_giveText_1 (by omega) (by omega) (fun v sh' M1 sz' hp2 => ?_)
  obtain ⟨e3, e4, e5, hs6, rw7, fr8⟩ := hp2
  subst e3
  rw [e4, e5]
  show Go g 0 0 sh M1 sz 4 [(0, vr p), (1, vr b)] [vi (s_b (decide (n < 12)))]
  obtain ⟨u9, u10, u11, u12, u13, u14, u15, u16, u17, u18, u19⟩ := hs6
  have tv20 := hb.kept (fr8 b (by omega)) (fr8 (b + 1) (by omega))
  refine go_ifb_ne (tgt := 8) X d_Stack_giveText_4 rfl (fun hq21 => ?_) (fun hq21 => ?_)
  · skip
    simp only [decide_eq_true_eq] at hq21
    have g1 : gn n = n + 1 := if_pos (by omega)
    have g2 : gW n W = W := if_pos (by omega)
    have e22 := u14.trans g1
    have rw23 := rw7.trans g2
    refine go_aload_n X d_Stack_giveText_8 rfl rfl ?_
    refine go_ifnonnull (tgt := 29) X d_Stack_giveText_9 rfl ?_
    refine go_aload_n X d_Stack_giveText_29 rfl rfl ?_
    refine go_get (v := vr (p + 1)) X f_Stack_17 h1 rfl d_Stack_giveText_30 (s_varr u12 (by omega)) ?_
    refine go_aload_n X d_Stack_giveText_33 rfl rfl ?_
    refine go_get (v := vi (n + 1)) X f_Stack_22 h1 rfl d_Stack_giveText_34 (congrArg (s_v .int) e22) ?_
    refine go_iconst (v := 1) X d_Stack_giveText_37 ?_
    refine go_isub X d_Stack_giveText_38 ?_
    obtain ⟨q24, hq25⟩ : ∃ q, q = p + 2 + 3 * ((n + 1) - 1) := ⟨_, rfl⟩
    have hv26 := u19 ((n + 1) - 1) (by omega) (by omega)
    rw [← hq25] at hv26
    obtain ⟨e27, hv28⟩ := hv26
    obtain ⟨u29, u30, u31, u32, u33, u34, u35, u36⟩ := id hv28
    refine go_aald X h2 (by omega) (by omega) d_Stack_giveText_39 ?_
    refine go_top (v' := vr q24) X (s_qref e27 (by omega)) ?_
    refine go_aload_n X d_Stack_giveText_40 rfl rfl ?_
    refine go_cV (st2 := []) (r := []) X k_Stack_62 (c_Value_setToText l D hv28 tv20 (by omega)) u29 rfl rfl (by omega) (Nat.le_of_ble_eq_true rfl) d_Stack_giveText_41 (by omega) (by omega) (fun v sh' M37 sz' hp38 => ?_)
    obtain ⟨e39, e40, e41, hv42, fr43⟩ := hp38
    subst e39
    rw [e40, e41]
    show Go g 0 0 sh M37 sz 44 [(0, vr p), (1, vr b)] []
    have e44 : M37 p 0 = p + 1 := (congrFun (fr43 p (by omega)) _).trans u12
    have e45 : M37 p 1 = w := (congrFun (fr43 p (by omega)) _).trans u13
    have e46 : M37 p 2 = n + 1 := (congrFun (fr43 p (by omega)) _).trans e22
    have e47 : M37 (p + 1) ((n + 1) - 1) = q24 := (congrFun (fr43 (p + 1) (by omega)) _).trans e27
    have tv48 := tv20.kept (fr43 b (by omega)) (fr43 (b + 1) (by omega))
    have fr49 : fr (fun z => (p ≤ z ∧ z ≤ p + 37) ∨ z = w) M M37 := fun z hz => by
      have hz1 : ¬ ((p ≤ z ∧ z ≤ p + 37) ∨ z = w) := hz
      exact (fr43 z (by omega)).trans (fr8 z hz)
    have rw50 : M37 w = W := (fr43 w (by omega)).trans rw23
    have sv51 : svs sh M37 p (fset f ((n + 1) - 1) (1, 0, (u.take 60))) := u19.set (by omega) (by rw [← hq25]; exact hv42) (fun z hz1 hz2 hz3 => fr43 z (by omega))
    refine go_vret X d_Stack_giveText_44 rfl (by omega) (by omega) ?_
    have g3 : gf n f (1, 0, (u.take 60)) = fset f n (1, 0, (u.take 60)) := if_pos (by omega)
    rw [g1, g2, g3]
    have sv9 := sv51
    rw [show (n + 1) - 1 = n by omega] at sv9
    exact ⟨rfl, rfl, rfl, ⟨h1, h2, h3, e44, e45, e46, (by omega), h8, h9, h10, sv9⟩, rw50, fr49⟩
  · skip
    refine go_vret X d_Stack_giveText_7 rfl (by omega) (by omega) ?_
    simp only [decide_eq_false_iff_not] at hq21
    have g3 : gf n f (1, 0, (u.take 60)) = f := if_neg (by omega)
    rw [g3]
    exact ⟨rfl, rfl, rfl, ⟨h1, h2, h3, u12, u13, u14, (by have : gn n = n := if_neg (by omega); omega), h8, h9, h10, u19⟩, rw7, fr8⟩
set_option maxHeartbeats 4000000 in
set_option maxRecDepth 100000 in
theorem c_Stack_giveText_null (l : Launch) (D : va_G) {sh : s_S} {M : s_M} {sz p w n : Int} {f : Int → sva} {W : Int → Int} (h : stv sh M p w n f) (hW : M w = W) : Sp l D y_Stack_giveText prog_10_method_11_code 2 none 4 0 0 [vr p, .null] sh M sz (fun v' sh' M' sz' => v' = none ∧ sh' = sh ∧ sz' = sz ∧ stv sh M' p w (gn n) (gf n f (2, 0, [])) ∧ M' w = gW n W ∧ fr (fun z => (p ≤ z ∧ z ≤ p + 37) ∨ z = w) M M') := by
  obtain ⟨h1, h2, h3, h4, h5, h6, h7, h8, h9, h10, h11⟩ := h
  refine Sp.ofGo (own := "CiteForge$Stack") (nm := "giveText") (by decide) rfl rfl (Nat.le_of_ble_eq_true rfl) (lv := [(0, vr p), (1, .null)]) rfl ?_
  intro g X
  refine go_aload_n X d_Stack_giveText_0 rfl rfl ?_
  have hs0 : stv sh M p w n f := ⟨h1, h2, h3, h4, h5, h6, h7, h8, h9, h10, h11⟩
  refine go_cV (st2 := []) (r := []) X k_Stack_53 (c_Stack_makeRoom l D hs0 hW) h1 rfl rfl (by omega) (Nat.le_of_ble_eq_true rfl) d_Stack_giveText_1 (by omega) (by omega) (fun v sh' M1 sz' hp2 => ?_)
  obtain ⟨e3, e4, e5, hs6, rw7, fr8⟩ := hp2
  subst e3
  rw [e4, e5]
  show Go g 0 0 sh M1 sz 4 [(0, vr p), (1, .null)] [vi (s_b (decide (n < 12)))]
  obtain ⟨u9, u10, u11, u12, u13, u14, u15, u16, u17, u18, u19⟩ := hs6
  refine go_ifb_ne (tgt := 8) X d_Stack_giveText_4 rfl (fun hq20 => ?_) (fun hq20 => ?_)
  · skip
    simp only [decide_eq_true_eq] at hq20
    have g1 : gn n = n + 1 := if_pos (by omega)
    have g2 : gW n W = W := if_pos (by omega)
    have e21 := u14.trans g1
    have rw22 := rw7.trans g2
    refine go_aload_nN X d_Stack_giveText_8 rfl rfl ?_
    refine go_ifnonnullN X d_Stack_giveText_9 ?_
    refine go_aload_n X d_Stack_giveText_12 rfl rfl ?_
    refine go_get (v := vr (p + 1)) X f_Stack_17 h1 rfl d_Stack_giveText_13 (s_varr u12 (by omega)) ?_
    refine go_aload_n X d_Stack_giveText_16 rfl rfl ?_
    refine go_get (v := vi (n + 1)) X f_Stack_22 h1 rfl d_Stack_giveText_17 (congrArg (s_v .int) e21) ?_
    refine go_iconst (v := 1) X d_Stack_giveText_20 ?_
    refine go_isub X d_Stack_giveText_21 ?_
    obtain ⟨q23, hq24⟩ : ∃ q, q = p + 2 + 3 * ((n + 1) - 1) := ⟨_, rfl⟩
    have hv25 := u19 ((n + 1) - 1) (by omega) (by omega)
    rw [← hq24] at hv25
    obtain ⟨e26, hv27⟩ := hv25
    obtain ⟨u28, u29, u30, u31, u32, u33, u34, u35⟩ := id hv27
    refine go_aald X h2 (by omega) (by omega) d_Stack_giveText_22 ?_
    refine go_top (v' := vr q23) X (s_qref e26 (by omega)) ?_
    refine go_cV (st2 := []) (r := []) X k_Stack_59 (c_Value_setToMissing l D hv27) u28 rfl rfl (by omega) (Nat.le_of_ble_eq_true rfl) d_Stack_giveText_23 (by omega) (by omega) (fun v sh' M36 sz' hp37 => ?_)
    obtain ⟨e38, e39, e40, hv41, fr42⟩ := hp37
    subst e38
    rw [e39, e40]
    show Go g 0 0 sh M36 sz 26 [(0, vr p), (1, .null)] []
    have e43 : M36 p 0 = p + 1 := (congrFun (fr42 p (by omega)) _).trans u12
    have e44 : M36 p 1 = w := (congrFun (fr42 p (by omega)) _).trans u13
    have e45 : M36 p 2 = n + 1 := (congrFun (fr42 p (by omega)) _).trans e21
    have e46 : M36 (p + 1) ((n + 1) - 1) = q23 := (congrFun (fr42 (p + 1) (by omega)) _).trans e26
    have fr47 : fr (fun z => (p ≤ z ∧ z ≤ p + 37) ∨ z = w) M M36 := fun z hz => by
      have hz1 : ¬ ((p ≤ z ∧ z ≤ p + 37) ∨ z = w) := hz
      exact (fr42 z (by omega)).trans (fr8 z hz)
    have rw48 : M36 w = W := (fr42 w (by omega)).trans rw22
    have sv49 : svs sh M36 p (fset f ((n + 1) - 1) (2, 0, [])) := u19.set (by omega) (by rw [← hq24]; exact hv41) (fun z hz1 hz2 hz3 => fr42 z (by omega))
    refine go_goto (tgt := 44) X d_Stack_giveText_26 rfl ?_
    refine go_vret X d_Stack_giveText_44 rfl (by omega) (by omega) ?_
    have g3 : gf n f (2, 0, []) = fset f n (2, 0, []) := if_pos (by omega)
    rw [g1, g2, g3]
    have sv9 := sv49
    rw [show (n + 1) - 1 = n by omega] at sv9
    exact ⟨rfl, rfl, rfl, ⟨h1, h2, h3, e43, e44, e45, (by omega), h8, h9, h10, sv9⟩, rw48, fr47⟩
  · skip
    refine go_vret X d_Stack_giveText_7 rfl (by omega) (by omega) ?_
    simp only [decide_eq_false_iff_not] at hq20
    have g3 : gf n f (2, 0, []) = f := if_neg (by omega)
    rw [g3]
    exact ⟨rfl, rfl, rfl, ⟨h1, h2, h3, u12, u13, u14, (by have : gn n = n := if_neg (by omega); omega), h8, h9, h10, u19⟩, rw7, fr8⟩
