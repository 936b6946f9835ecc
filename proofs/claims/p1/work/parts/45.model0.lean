/-! The reference: its arrays as it makes them: type, length, field, offset. -/
abbrev m_A : Type := FieldType × Nat × Int × Int
def mL : List m_A := [(.int, 10, 1, 1), (.int, 320, 3, 2), (.int, 85, 4, 3), (.int, 5100, 5, 4), (.long, 9, 7, 5), (.long, 9, 8, 6), (.int, 9, 9, 7), (.long, 54, 10, 8), (.long, 8, 12, 9), (.long, 10, 14, 10), (.int, 8, 16, 11), (.int, 6, 22, 12), (.int, 144, 23, 13), (.long, 144, 24, 14), (.int, 4, 25, 15), (.int, 12, 27, 16), (.int, 12, 28, 17), (.int, 8, 33, 18), (.int, 8, 34, 19), (.int, 8, 35, 20), (.long, 8, 36, 21), (.int, 40, 39, 22), (.int, 40, 40, 23), (.int, 40, 41, 24), (.int, 40, 42, 25), (.int, 184, 46, 26), (.int, 24, 47, 27), (.int, 4320, 48, 28)]
def m_f0 : Int → Int := (fun j => if j = 1 ∨ j = 3 ∨ j = 4 ∨ j = 5 ∨ j = 7 ∨ j = 8 ∨ j = 9 ∨ j = 10 ∨ j = 12 ∨ j = 14 ∨ j = 16 ∨ j = 22 ∨ j = 23 ∨ j = 24 ∨ j = 25 ∨ j = 27 ∨ j = 28 ∨ j = 33 ∨ j = 34 ∨ j = 35 ∨ j = 36 ∨ j = 39 ∨ j = 40 ∨ j = 41 ∨ j = 42 ∨ j = 46 ∨ j = 47 ∨ j = 48 then -1 else 0)
def mks (sh : s_S) (M : s_M) (r : Int) (L : List m_A) : Prop := sh r = some (.inl (11, ts_Model)) ∧ 0 ≤ r ∧ (∀ (j : Nat) (q : m_A), L[j]? = some q → q.2.2.2 = j + 1 ∧ sh (r + q.2.2.2) = some (.inr (q.1, q.2.1)) ∧ M (r + q.2.2.2) = (fun _ => 0) ∧ M r q.2.2.1 = r + q.2.2.2) ∧ ∀ f : Int, (∀ q ∈ L, q.2.2.1 ≠ f) → M r f = m_f0 f
theorem mks.step {sh : s_S} {M : s_M} {r sz : Int} {L L' : List m_A} (h : mks sh M r L) {t : FieldType} {N : Nat} {f : Int} (hz : sz = r + L.length + 1) (hf : L.all (fun q => q.2.2.1 != f) = true) (hL : L' = L ++ [(t, N, f, (L.length : Int) + 1)]) : mks (s_up sh sz (.inr (t, N))) (m_s (m_new M sz (fun _ => 0)) r f sz) r L' := by
  obtain ⟨h1, h2, h3, h4⟩ := h
  subst hL
  have hf2 : ∀ q ∈ L, q.2.2.1 ≠ f := fun q hq e => by
    have := List.all_eq_true.mp hf q hq
    rw [e] at this
    simp at this
  refine ⟨(s_up_n (by omega)).trans h1, h2, ?_, ?_⟩
  · intro j q hq
    rcases Nat.lt_trichotomy j L.length with hj | hj | hj
    · rw [List.getElem?_append_left hj] at hq
      obtain ⟨g1, g2, g3, g4⟩ := h3 j q hq
      have hm : q ∈ L := List.mem_of_getElem? hq
      exact ⟨g1, (s_up_n (by omega)).trans g2, ((m_s_a (by omega)).trans (m_new_n (by omega))).trans g3, ((m_s_n (fun e => hf2 q hm e.2)).trans (congrFun (m_new_n (by omega)) _)).trans g4⟩
    · subst hj
      rw [List.getElem?_append_right (Nat.le_refl _), Nat.sub_self] at hq
      cases hq
      refine ⟨rfl, ?_, ?_, ?_⟩
      · show s_up _ _ _ (r + ((L.length : Int) + 1)) = _
        rw [show r + ((L.length : Int) + 1) = sz by omega]
        exact s_up_s
      · show m_s _ _ _ _ (r + ((L.length : Int) + 1)) = _
        rw [m_s_a (by omega), show r + ((L.length : Int) + 1) = sz by omega]
        exact m_new_s
      · show m_s _ _ _ _ r f = r + ((L.length : Int) + 1)
        rw [m_s_s]
        omega
    · rw [List.getElem?_eq_none (by simp; omega)] at hq
      cases hq
  · intro g hg
    have h5 : f ≠ g := hg (t, N, f, (L.length : Int) + 1) (by simp)
    have h6 := h4 g (fun q hq => hg q (List.mem_append_left _ hq))
    exact ((m_s_n (fun e => h5 e.2.symm)).trans (congrFun (m_new_n (by omega)) _)).trans h6
set_option maxHeartbeats 4000000 in
set_option maxRecDepth 100000 in
theorem c_Model_init (l : Launch) (D : va_G) {sh : s_S} {M : s_M} {sz r : Int} (hs : sh r = some (.inl (11, ts_Model))) (hM : M r = (fun j => if j = 1 ∨ j = 3 ∨ j = 4 ∨ j = 5 ∨ j = 7 ∨ j = 8 ∨ j = 9 ∨ j = 10 ∨ j = 12 ∨ j = 14 ∨ j = 16 ∨ j = 22 ∨ j = 23 ∨ j = 24 ∨ j = 25 ∨ j = 27 ∨ j = 28 ∨ j = 33 ∨ j = 34 ∨ j = 35 ∨ j = 36 ∨ j = 39 ∨ j = 40 ∨ j = 41 ∨ j = 42 ∨ j = 46 ∨ j = 47 ∨ j = 48 then -1 else 0)) (h0 : 0 ≤ r) (hz : sz = r + 1) : Sp l D y_Model_init prog_14_method_1_code 1 none 2 28 10664 [vr r] sh M sz (fun v sh' M' sz' => v = none ∧ sz' = r + 29 ∧ up r sh M sh' M' ∧ mks sh' M' r mL) := by
  subst hz
  have hu0 := up.rf (a := r) (sh := sh) (M := M)
  have hk0 : mks sh M r (mL.take 0) := ⟨hs, h0, (fun j q h => by simp at h), fun f _ => by rw [hM]; rfl⟩
  refine Sp.ofGo (own := "CiteForgeModel") (nm := "<init>") (by decide) rfl rfl (Nat.le_of_ble_eq_true rfl) (lv := [(0, vr r)]) rfl ?_
  intro g X
  refine go_aload_n X d_Model_init_0 rfl rfl ?_
  refine go_objInit X w_oi_Model w_oi2 w_oi3 (by omega) (Nat.le_of_ble_eq_true rfl) d_Model_init_1 ?_
  refine go_aload_n X d_Model_init_4 rfl rfl ?_
  refine go_bipush (v := 10) X d_Model_init_5 (by decide) ?_
  refine go_newa (N := 10) (ty := .int) X w_ac_int rfl (by simp) (by decide) (by omega) (by omega) d_Model_init_7 ?_
  refine go_putF (x := r + 1) (v := vr (r + 1)) X f_Model_7 rfl ((hk0.step (t := .int) (N := 10) (f := 1) (sz := r + 1) (L' := (mL.take 1)) (by show r + 1 = r + ((0 : Nat) : Int) + 1; omega) (by decide) rfl).1) rfl d_Model_init_9 (s_varr rfl (by omega)) rfl rfl f_Model_7w ?_
  have hk1 := hk0.step (t := .int) (N := 10) (f := 1) (sz := r + 1) (L' := (mL.take 1)) (by show r + 1 = r + ((0 : Nat) : Int) + 1; omega) (by decide) rfl
  have hu1 : up r sh M (s_up sh (r + 1) (.inr (.int, 10))) (m_s (m_new M (r + 1) (fun _ => 0)) r 1 (r + 1)) := (hu0.tr (b := r + 1) up.new (by omega)).set (by omega)
  revert hk1 hu1
  generalize s_up sh (r + 1) (.inr (.int, 10)) = sh1
  generalize m_s (m_new M (r + 1) (fun _ => 0)) r 1 (r + 1) = M1
  intro hk1 hu1
  clear hk0 hu0
  refine go_kn (k' := 1) (n' := 10) (sz' := r + 2) (by omega) (by omega) (by omega) ?_
  refine go_aload_n X d_Model_init_12 rfl rfl ?_
  refine go_sipush (v := 320) X d_Model_init_13 (by decide) ?_
  refine go_newa (N := 320) (ty := .int) X w_ac_int rfl (by simp) (by decide) (by omega) (by omega) d_Model_init_16 ?_
  refine go_putF (x := r + 2) (v := vr (r + 2)) X f_Model_13 rfl ((hk1.step (t := .int) (N := 320) (f := 3) (sz := r + 2) (L' := (mL.take 2)) (by show r + 2 = r + ((1 : Nat) : Int) + 1; omega) (by decide) rfl).1) rfl d_Model_init_18 (s_varr rfl (by omega)) rfl rfl f_Model_13w ?_
  have hk2 := hk1.step (t := .int) (N := 320) (f := 3) (sz := r + 2) (L' := (mL.take 2)) (by show r + 2 = r + ((1 : Nat) : Int) + 1; omega) (by decide) rfl
  have hu2 : up r sh M (s_up sh1 (r + 2) (.inr (.int, 320))) (m_s (m_new M1 (r + 2) (fun _ => 0)) r 3 (r + 2)) := (hu1.tr (b := r + 2) up.new (by omega)).set (by omega)
  revert hk2 hu2
  generalize s_up sh1 (r + 2) (.inr (.int, 320)) = sh2
  generalize m_s (m_new M1 (r + 2) (fun _ => 0)) r 3 (r + 2) = M2
  intro hk2 hu2
  clear hk1 hu1
  refine go_kn (k' := 2) (n' := 330) (sz' := r + 3) (by omega) (by omega) (by omega) ?_
  refine go_aload_n X d_Model_init_21 rfl rfl ?_
  refine go_bipush (v := 85) X d_Model_init_22 (by decide) ?_
  refine go_newa (N := 85) (ty := .int) X w_ac_int rfl (by simp) (by decide) (by omega) (by omega) d_Model_init_24 ?_
  refine go_putF (x := r + 3) (v := vr (r + 3)) X f_Model_16 rfl ((hk2.step (t := .int) (N := 85) (f := 4) (sz := r + 3) (L' := (mL.take 3)) (by show r + 3 = r + ((2 : Nat) : Int) + 1; omega) (by decide) rfl).1) rfl d_Model_init_26 (s_varr rfl (by omega)) rfl rfl f_Model_16w ?_
  have hk3 := hk2.step (t := .int) (N := 85) (f := 4) (sz := r + 3) (L' := (mL.take 3)) (by show r + 3 = r + ((2 : Nat) : Int) + 1; omega) (by decide) rfl
  have hu3 : up r sh M (s_up sh2 (r + 3) (.inr (.int, 85))) (m_s (m_new M2 (r + 3) (fun _ => 0)) r 4 (r + 3)) := (hu2.tr (b := r + 3) up.new (by omega)).set (by omega)
  revert hk3 hu3
  generalize s_up sh2 (r + 3) (.inr (.int, 85)) = sh3
  generalize m_s (m_new M2 (r + 3) (fun _ => 0)) r 4 (r + 3) = M3
  intro hk3 hu3
  clear hk2 hu2
  refine go_kn (k' := 3) (n' := 415) (sz' := r + 4) (by omega) (by omega) (by omega) ?_
  refine go_aload_n X d_Model_init_29 rfl rfl ?_
  refine go_sipush (v := 5100) X d_Model_init_30 (by decide) ?_
  refine go_newa (N := 5100) (ty := .int) X w_ac_int rfl (by simp) (by decide) (by omega) (by omega) d_Model_init_33 ?_
  refine go_putF (x := r + 4) (v := vr (r + 4)) X f_Model_19 rfl ((hk3.step (t := .int) (N := 5100) (f := 5) (sz := r + 4) (L' := (mL.take 4)) (by show r + 4 = r + ((3 : Nat) : Int) + 1; omega) (by decide) rfl).1) rfl d_Model_init_35 (s_varr rfl (by omega)) rfl rfl f_Model_19w ?_
  have hk4 := hk3.step (t := .int) (N := 5100) (f := 5) (sz := r + 4) (L' := (mL.take 4)) (by show r + 4 = r + ((3 : Nat) : Int) + 1; omega) (by decide) rfl
  have hu4 : up r sh M (s_up sh3 (r + 4) (.inr (.int, 5100))) (m_s (m_new M3 (r + 4) (fun _ => 0)) r 5 (r + 4)) := (hu3.tr (b := r + 4) up.new (by omega)).set (by omega)
  revert hk4 hu4
  generalize s_up sh3 (r + 4) (.inr (.int, 5100)) = sh4
  generalize m_s (m_new M3 (r + 4) (fun _ => 0)) r 5 (r + 4) = M4
  intro hk4 hu4
  clear hk3 hu3
  refine go_kn (k' := 4) (n' := 5515) (sz' := r + 5) (by omega) (by omega) (by omega) ?_
  refine go_aload_n X d_Model_init_38 rfl rfl ?_
  refine go_bipush (v := 9) X d_Model_init_39 (by decide) ?_
  refine go_newa (N := 9) (ty := .long) X w_ac_long rfl (by simp) (by decide) (by omega) (by omega) d_Model_init_41 ?_
  refine go_putF (x := r + 5) (v := vr (r + 5)) X f_Model_22 rfl ((hk4.step (t := .long) (N := 9) (f := 7) (sz := r + 5) (L' := (mL.take 5)) (by show r + 5 = r + ((4 : Nat) : Int) + 1; omega) (by decide) rfl).1) rfl d_Model_init_43 (s_varr rfl (by omega)) rfl rfl f_Model_22w ?_
  have hk5 := hk4.step (t := .long) (N := 9) (f := 7) (sz := r + 5) (L' := (mL.take 5)) (by show r + 5 = r + ((4 : Nat) : Int) + 1; omega) (by decide) rfl
  have hu5 : up r sh M (s_up sh4 (r + 5) (.inr (.long, 9))) (m_s (m_new M4 (r + 5) (fun _ => 0)) r 7 (r + 5)) := (hu4.tr (b := r + 5) up.new (by omega)).set (by omega)
  revert hk5 hu5
  generalize s_up sh4 (r + 5) (.inr (.long, 9)) = sh5
  generalize m_s (m_new M4 (r + 5) (fun _ => 0)) r 7 (r + 5) = M5
  intro hk5 hu5
  clear hk4 hu4
  refine go_kn (k' := 5) (n' := 5524) (sz' := r + 6) (by omega) (by omega) (by omega) ?_
  refine go_aload_n X d_Model_init_46 rfl rfl ?_
  refine go_bipush (v := 9) X d_Model_init_47 (by decide) ?_
  refine go_newa (N := 9) (ty := .long) X w_ac_long rfl (by simp) (by decide) (by omega) (by omega) d_Model_init_49 ?_
  refine go_putF (x := r + 6) (v := vr (r + 6)) X f_Model_26 rfl ((hk5.step (t := .long) (N := 9) (f := 8) (sz := r + 6) (L' := (mL.take 6)) (by show r + 6 = r + ((5 : Nat) : Int) + 1; omega) (by decide) rfl).1) rfl d_Model_init_51 (s_varr rfl (by omega)) rfl rfl f_Model_26w ?_
  have hk6 := hk5.step (t := .long) (N := 9) (f := 8) (sz := r + 6) (L' := (mL.take 6)) (by show r + 6 = r + ((5 : Nat) : Int) + 1; omega) (by decide) rfl
  have hu6 : up r sh M (s_up sh5 (r + 6) (.inr (.long, 9))) (m_s (m_new M5 (r + 6) (fun _ => 0)) r 8 (r + 6)) := (hu5.tr (b := r + 6) up.new (by omega)).set (by omega)
  revert hk6 hu6
  generalize s_up sh5 (r + 6) (.inr (.long, 9)) = sh6
  generalize m_s (m_new M5 (r + 6) (fun _ => 0)) r 8 (r + 6) = M6
  intro hk6 hu6
  clear hk5 hu5
  refine go_kn (k' := 6) (n' := 5533) (sz' := r + 7) (by omega) (by omega) (by omega) ?_
  refine go_aload_n X d_Model_init_54 rfl rfl ?_
  refine go_bipush (v := 9) X d_Model_init_55 (by decide) ?_
  refine go_newa (N := 9) (ty := .int) X w_ac_int rfl (by simp) (by decide) (by omega) (by omega) d_Model_init_57 ?_
  refine go_putF (x := r + 7) (v := vr (r + 7)) X f_Model_29 rfl ((hk6.step (t := .int) (N := 9) (f := 9) (sz := r + 7) (L' := (mL.take 7)) (by show r + 7 = r + ((6 : Nat) : Int) + 1; omega) (by decide) rfl).1) rfl d_Model_init_59 (s_varr rfl (by omega)) rfl rfl f_Model_29w ?_
  have hk7 := hk6.step (t := .int) (N := 9) (f := 9) (sz := r + 7) (L' := (mL.take 7)) (by show r + 7 = r + ((6 : Nat) : Int) + 1; omega) (by decide) rfl
  have hu7 : up r sh M (s_up sh6 (r + 7) (.inr (.int, 9))) (m_s (m_new M6 (r + 7) (fun _ => 0)) r 9 (r + 7)) := (hu6.tr (b := r + 7) up.new (by omega)).set (by omega)
  revert hk7 hu7
  generalize s_up sh6 (r + 7) (.inr (.int, 9)) = sh7
  generalize m_s (m_new M6 (r + 7) (fun _ => 0)) r 9 (r + 7) = M7
  intro hk7 hu7
  clear hk6 hu6
  refine go_kn (k' := 7) (n' := 5542) (sz' := r + 8) (by omega) (by omega) (by omega) ?_
  refine go_aload_n X d_Model_init_62 rfl rfl ?_
  refine go_bipush (v := 54) X d_Model_init_63 (by decide) ?_
  refine go_newa (N := 54) (ty := .long) X w_ac_long rfl (by simp) (by decide) (by omega) (by omega) d_Model_init_65 ?_
  refine go_putF (x := r + 8) (v := vr (r + 8)) X f_Model_32 rfl ((hk7.step (t := .long) (N := 54) (f := 10) (sz := r + 8) (L' := (mL.take 8)) (by show r + 8 = r + ((7 : Nat) : Int) + 1; omega) (by decide) rfl).1) rfl d_Model_init_67 (s_varr rfl (by omega)) rfl rfl f_Model_32w ?_
  have hk8 := hk7.step (t := .long) (N := 54) (f := 10) (sz := r + 8) (L' := (mL.take 8)) (by show r + 8 = r + ((7 : Nat) : Int) + 1; omega) (by decide) rfl
  have hu8 : up r sh M (s_up sh7 (r + 8) (.inr (.long, 54))) (m_s (m_new M7 (r + 8) (fun _ => 0)) r 10 (r + 8)) := (hu7.tr (b := r + 8) up.new (by omega)).set (by omega)
  revert hk8 hu8
  generalize s_up sh7 (r + 8) (.inr (.long, 54)) = sh8
  generalize m_s (m_new M7 (r + 8) (fun _ => 0)) r 10 (r + 8) = M8
  intro hk8 hu8
  clear hk7 hu7
  refine go_kn (k' := 8) (n' := 5596) (sz' := r + 9) (by omega) (by omega) (by omega) ?_
  refine go_aload_n X d_Model_init_70 rfl rfl ?_
  refine go_bipush (v := 8) X d_Model_init_71 (by decide) ?_
  refine go_newa (N := 8) (ty := .long) X w_ac_long rfl (by simp) (by decide) (by omega) (by omega) d_Model_init_73 ?_
  refine go_putF (x := r + 9) (v := vr (r + 9)) X f_Model_35 rfl ((hk8.step (t := .long) (N := 8) (f := 12) (sz := r + 9) (L' := (mL.take 9)) (by show r + 9 = r + ((8 : Nat) : Int) + 1; omega) (by decide) rfl).1) rfl d_Model_init_75 (s_varr rfl (by omega)) rfl rfl f_Model_35w ?_
  have hk9 := hk8.step (t := .long) (N := 8) (f := 12) (sz := r + 9) (L' := (mL.take 9)) (by show r + 9 = r + ((8 : Nat) : Int) + 1; omega) (by decide) rfl
  have hu9 : up r sh M (s_up sh8 (r + 9) (.inr (.long, 8))) (m_s (m_new M8 (r + 9) (fun _ => 0)) r 12 (r + 9)) := (hu8.tr (b := r + 9) up.new (by omega)).set (by omega)
  revert hk9 hu9
  generalize s_up sh8 (r + 9) (.inr (.long, 8)) = sh9
  generalize m_s (m_new M8 (r + 9) (fun _ => 0)) r 12 (r + 9) = M9
  intro hk9 hu9
  clear hk8 hu8
  refine go_kn (k' := 9) (n' := 5604) (sz' := r + 10) (by omega) (by omega) (by omega) ?_
  refine go_aload_n X d_Model_init_78 rfl rfl ?_
  refine go_bipush (v := 10) X d_Model_init_79 (by decide) ?_
  refine go_newa (N := 10) (ty := .long) X w_ac_long rfl (by simp) (by decide) (by omega) (by omega) d_Model_init_81 ?_
  refine go_putF (x := r + 10) (v := vr (r + 10)) X f_Model_38 rfl ((hk9.step (t := .long) (N := 10) (f := 14) (sz := r + 10) (L' := (mL.take 10)) (by show r + 10 = r + ((9 : Nat) : Int) + 1; omega) (by decide) rfl).1) rfl d_Model_init_83 (s_varr rfl (by omega)) rfl rfl f_Model_38w ?_
  have hk10 := hk9.step (t := .long) (N := 10) (f := 14) (sz := r + 10) (L' := (mL.take 10)) (by show r + 10 = r + ((9 : Nat) : Int) + 1; omega) (by decide) rfl
  have hu10 : up r sh M (s_up sh9 (r + 10) (.inr (.long, 10))) (m_s (m_new M9 (r + 10) (fun _ => 0)) r 14 (r + 10)) := (hu9.tr (b := r + 10) up.new (by omega)).set (by omega)
  revert hk10 hu10
  generalize s_up sh9 (r + 10) (.inr (.long, 10)) = sh10
  generalize m_s (m_new M9 (r + 10) (fun _ => 0)) r 14 (r + 10) = M10
  intro hk10 hu10
  clear hk9 hu9
  refine go_kn (k' := 10) (n' := 5614) (sz' := r + 11) (by omega) (by omega) (by omega) ?_
  refine go_aload_n X d_Model_init_86 rfl rfl ?_
  refine go_bipush (v := 8) X d_Model_init_87 (by decide) ?_
  refine go_newa (N := 8) (ty := .int) X w_ac_int rfl (by simp) (by decide) (by omega) (by omega) d_Model_init_89 ?_
  refine go_putF (x := r + 11) (v := vr (r + 11)) X f_Model_41 rfl ((hk10.step (t := .int) (N := 8) (f := 16) (sz := r + 11) (L' := (mL.take 11)) (by show r + 11 = r + ((10 : Nat) : Int) + 1; omega) (by decide) rfl).1) rfl d_Model_init_91 (s_varr rfl (by omega)) rfl rfl f_Model_41w ?_
  have hk11 := hk10.step (t := .int) (N := 8) (f := 16) (sz := r + 11) (L' := (mL.take 11)) (by show r + 11 = r + ((10 : Nat) : Int) + 1; omega) (by decide) rfl
  have hu11 : up r sh M (s_up sh10 (r + 11) (.inr (.int, 8))) (m_s (m_new M10 (r + 11) (fun _ => 0)) r 16 (r + 11)) := (hu10.tr (b := r + 11) up.new (by omega)).set (by omega)
  revert hk11 hu11
  generalize s_up sh10 (r + 11) (.inr (.int, 8)) = sh11
  generalize m_s (m_new M10 (r + 11) (fun _ => 0)) r 16 (r + 11) = M11
  intro hk11 hu11
  clear hk10 hu10
  refine go_kn (k' := 11) (n' := 5622) (sz' := r + 12) (by omega) (by omega) (by omega) ?_
  refine go_aload_n X d_Model_init_94 rfl rfl ?_
  refine go_bipush (v := 6) X d_Model_init_95 (by decide) ?_
  refine go_newa (N := 6) (ty := .int) X w_ac_int rfl (by simp) (by decide) (by omega) (by omega) d_Model_init_97 ?_
  refine go_putF (x := r + 12) (v := vr (r + 12)) X f_Model_44 rfl ((hk11.step (t := .int) (N := 6) (f := 22) (sz := r + 12) (L' := (mL.take 12)) (by show r + 12 = r + ((11 : Nat) : Int) + 1; omega) (by decide) rfl).1) rfl d_Model_init_99 (s_varr rfl (by omega)) rfl rfl f_Model_44w ?_
  have hk12 := hk11.step (t := .int) (N := 6) (f := 22) (sz := r + 12) (L' := (mL.take 12)) (by show r + 12 = r + ((11 : Nat) : Int) + 1; omega) (by decide) rfl
  have hu12 : up r sh M (s_up sh11 (r + 12) (.inr (.int, 6))) (m_s (m_new M11 (r + 12) (fun _ => 0)) r 22 (r + 12)) := (hu11.tr (b := r + 12) up.new (by omega)).set (by omega)
  revert hk12 hu12
  generalize s_up sh11 (r + 12) (.inr (.int, 6)) = sh12
  generalize m_s (m_new M11 (r + 12) (fun _ => 0)) r 22 (r + 12) = M12
  intro hk12 hu12
  clear hk11 hu11
  refine go_kn (k' := 12) (n' := 5628) (sz' := r + 13) (by omega) (by omega) (by omega) ?_
  refine go_aload_n X d_Model_init_102 rfl rfl ?_
  refine go_sipush (v := 144) X d_Model_init_103 (by decide) ?_
  refine go_newa (N := 144) (ty := .int) X w_ac_int rfl (by simp) (by decide) (by omega) (by omega) d_Model_init_106 ?_
  refine go_putF (x := r + 13) (v := vr (r + 13)) X f_Model_47 rfl ((hk12.step (t := .int) (N := 144) (f := 23) (sz := r + 13) (L' := (mL.take 13)) (by show r + 13 = r + ((12 : Nat) : Int) + 1; omega) (by decide) rfl).1) rfl d_Model_init_108 (s_varr rfl (by omega)) rfl rfl f_Model_47w ?_
  have hk13 := hk12.step (t := .int) (N := 144) (f := 23) (sz := r + 13) (L' := (mL.take 13)) (by show r + 13 = r + ((12 : Nat) : Int) + 1; omega) (by decide) rfl
  have hu13 : up r sh M (s_up sh12 (r + 13) (.inr (.int, 144))) (m_s (m_new M12 (r + 13) (fun _ => 0)) r 23 (r + 13)) := (hu12.tr (b := r + 13) up.new (by omega)).set (by omega)
  revert hk13 hu13
  generalize s_up sh12 (r + 13) (.inr (.int, 144)) = sh13
  generalize m_s (m_new M12 (r + 13) (fun _ => 0)) r 23 (r + 13) = M13
  intro hk13 hu13
  clear hk12 hu12
  refine go_kn (k' := 13) (n' := 5772) (sz' := r + 14) (by omega) (by omega) (by omega) ?_
  refine go_aload_n X d_Model_init_111 rfl rfl ?_
  refine go_sipush (v := 144) X d_Model_init_112 (by decide) ?_
  refine go_newa (N := 144) (ty := .long) X w_ac_long rfl (by simp) (by decide) (by omega) (by omega) d_Model_init_115 ?_
  refine go_putF (x := r + 14) (v := vr (r + 14)) X f_Model_50 rfl ((hk13.step (t := .long) (N := 144) (f := 24) (sz := r + 14) (L' := (mL.take 14)) (by show r + 14 = r + ((13 : Nat) : Int) + 1; omega) (by decide) rfl).1) rfl d_Model_init_117 (s_varr rfl (by omega)) rfl rfl f_Model_50w ?_
  have hk14 := hk13.step (t := .long) (N := 144) (f := 24) (sz := r + 14) (L' := (mL.take 14)) (by show r + 14 = r + ((13 : Nat) : Int) + 1; omega) (by decide) rfl
  have hu14 : up r sh M (s_up sh13 (r + 14) (.inr (.long, 144))) (m_s (m_new M13 (r + 14) (fun _ => 0)) r 24 (r + 14)) := (hu13.tr (b := r + 14) up.new (by omega)).set (by omega)
  revert hk14 hu14
  generalize s_up sh13 (r + 14) (.inr (.long, 144)) = sh14
  generalize m_s (m_new M13 (r + 14) (fun _ => 0)) r 24 (r + 14) = M14
  intro hk14 hu14
  clear hk13 hu13
  refine go_kn (k' := 14) (n' := 5916) (sz' := r + 15) (by omega) (by omega) (by omega) ?_
  refine go_aload_n X d_Model_init_120 rfl rfl ?_
  refine go_iconst (v := 4) X d_Model_init_121 ?_
  refine go_newa (N := 4) (ty := .int) X w_ac_int rfl (by simp) (by decide) (by omega) (by omega) d_Model_init_122 ?_
  refine go_putF (x := r + 15) (v := vr (r + 15)) X f_Model_53 rfl ((hk14.step (t := .int) (N := 4) (f := 25) (sz := r + 15) (L' := (mL.take 15)) (by show r + 15 = r + ((14 : Nat) : Int) + 1; omega) (by decide) rfl).1) rfl d_Model_init_124 (s_varr rfl (by omega)) rfl rfl f_Model_53w ?_
  have hk15 := hk14.step (t := .int) (N := 4) (f := 25) (sz := r + 15) (L' := (mL.take 15)) (by show r + 15 = r + ((14 : Nat) : Int) + 1; omega) (by decide) rfl
  have hu15 : up r sh M (s_up sh14 (r + 15) (.inr (.int, 4))) (m_s (m_new M14 (r + 15) (fun _ => 0)) r 25 (r + 15)) := (hu14.tr (b := r + 15) up.new (by omega)).set (by omega)
  revert hk15 hu15
  generalize s_up sh14 (r + 15) (.inr (.int, 4)) = sh15
  generalize m_s (m_new M14 (r + 15) (fun _ => 0)) r 25 (r + 15) = M15
  intro hk15 hu15
  clear hk14 hu14
  refine go_kn (k' := 15) (n' := 5920) (sz' := r + 16) (by omega) (by omega) (by omega) ?_
  refine go_aload_n X d_Model_init_127 rfl rfl ?_
  refine go_bipush (v := 12) X d_Model_init_128 (by decide) ?_
  refine go_newa (N := 12) (ty := .int) X w_ac_int rfl (by simp) (by decide) (by omega) (by omega) d_Model_init_130 ?_
  refine go_putF (x := r + 16) (v := vr (r + 16)) X f_Model_56 rfl ((hk15.step (t := .int) (N := 12) (f := 27) (sz := r + 16) (L' := (mL.take 16)) (by show r + 16 = r + ((15 : Nat) : Int) + 1; omega) (by decide) rfl).1) rfl d_Model_init_132 (s_varr rfl (by omega)) rfl rfl f_Model_56w ?_
  have hk16 := hk15.step (t := .int) (N := 12) (f := 27) (sz := r + 16) (L' := (mL.take 16)) (by show r + 16 = r + ((15 : Nat) : Int) + 1; omega) (by decide) rfl
  have hu16 : up r sh M (s_up sh15 (r + 16) (.inr (.int, 12))) (m_s (m_new M15 (r + 16) (fun _ => 0)) r 27 (r + 16)) := (hu15.tr (b := r + 16) up.new (by omega)).set (by omega)
  revert hk16 hu16
  generalize s_up sh15 (r + 16) (.inr (.int, 12)) = sh16
  generalize m_s (m_new M15 (r + 16) (fun _ => 0)) r 27 (r + 16) = M16
  intro hk16 hu16
  clear hk15 hu15
  refine go_kn (k' := 16) (n' := 5932) (sz' := r + 17) (by omega) (by omega) (by omega) ?_
  refine go_aload_n X d_Model_init_135 rfl rfl ?_
  refine go_bipush (v := 12) X d_Model_init_136 (by decide) ?_
  refine go_newa (N := 12) (ty := .int) X w_ac_int rfl (by simp) (by decide) (by omega) (by omega) d_Model_init_138 ?_
  refine go_putF (x := r + 17) (v := vr (r + 17)) X f_Model_59 rfl ((hk16.step (t := .int) (N := 12) (f := 28) (sz := r + 17) (L' := (mL.take 17)) (by show r + 17 = r + ((16 : Nat) : Int) + 1; omega) (by decide) rfl).1) rfl d_Model_init_140 (s_varr rfl (by omega)) rfl rfl f_Model_59w ?_
  have hk17 := hk16.step (t := .int) (N := 12) (f := 28) (sz := r + 17) (L' := (mL.take 17)) (by show r + 17 = r + ((16 : Nat) : Int) + 1; omega) (by decide) rfl
  have hu17 : up r sh M (s_up sh16 (r + 17) (.inr (.int, 12))) (m_s (m_new M16 (r + 17) (fun _ => 0)) r 28 (r + 17)) := (hu16.tr (b := r + 17) up.new (by omega)).set (by omega)
  revert hk17 hu17
  generalize s_up sh16 (r + 17) (.inr (.int, 12)) = sh17
  generalize m_s (m_new M16 (r + 17) (fun _ => 0)) r 28 (r + 17) = M17
  intro hk17 hu17
  clear hk16 hu16
  refine go_kn (k' := 17) (n' := 5944) (sz' := r + 18) (by omega) (by omega) (by omega) ?_
  refine go_aload_n X d_Model_init_143 rfl rfl ?_
  refine go_bipush (v := 8) X d_Model_init_144 (by decide) ?_
  refine go_newa (N := 8) (ty := .int) X w_ac_int rfl (by simp) (by decide) (by omega) (by omega) d_Model_init_146 ?_
  refine go_putF (x := r + 18) (v := vr (r + 18)) X f_Model_62 rfl ((hk17.step (t := .int) (N := 8) (f := 33) (sz := r + 18) (L' := (mL.take 18)) (by show r + 18 = r + ((17 : Nat) : Int) + 1; omega) (by decide) rfl).1) rfl d_Model_init_148 (s_varr rfl (by omega)) rfl rfl f_Model_62w ?_
  have hk18 := hk17.step (t := .int) (N := 8) (f := 33) (sz := r + 18) (L' := (mL.take 18)) (by show r + 18 = r + ((17 : Nat) : Int) + 1; omega) (by decide) rfl
  have hu18 : up r sh M (s_up sh17 (r + 18) (.inr (.int, 8))) (m_s (m_new M17 (r + 18) (fun _ => 0)) r 33 (r + 18)) := (hu17.tr (b := r + 18) up.new (by omega)).set (by omega)
  revert hk18 hu18
  generalize s_up sh17 (r + 18) (.inr (.int, 8)) = sh18
  generalize m_s (m_new M17 (r + 18) (fun _ => 0)) r 33 (r + 18) = M18
  intro hk18 hu18
  clear hk17 hu17
  refine go_kn (k' := 18) (n' := 5952) (sz' := r + 19) (by omega) (by omega) (by omega) ?_
  refine go_aload_n X d_Model_init_151 rfl rfl ?_
  refine go_bipush (v := 8) X d_Model_init_152 (by decide) ?_
  refine go_newa (N := 8) (ty := .int) X w_ac_int rfl (by simp) (by decide) (by omega) (by omega) d_Model_init_154 ?_
  refine go_putF (x := r + 19) (v := vr (r + 19)) X f_Model_65 rfl ((hk18.step (t := .int) (N := 8) (f := 34) (sz := r + 19) (L' := (mL.take 19)) (by show r + 19 = r + ((18 : Nat) : Int) + 1; omega) (by decide) rfl).1) rfl d_Model_init_156 (s_varr rfl (by omega)) rfl rfl f_Model_65w ?_
  have hk19 := hk18.step (t := .int) (N := 8) (f := 34) (sz := r + 19) (L' := (mL.take 19)) (by show r + 19 = r + ((18 : Nat) : Int) + 1; omega) (by decide) rfl
  have hu19 : up r sh M (s_up sh18 (r + 19) (.inr (.int, 8))) (m_s (m_new M18 (r + 19) (fun _ => 0)) r 34 (r + 19)) := (hu18.tr (b := r + 19) up.new (by omega)).set (by omega)
  revert hk19 hu19
  generalize s_up sh18 (r + 19) (.inr (.int, 8)) = sh19
  generalize m_s (m_new M18 (r + 19) (fun _ => 0)) r 34 (r + 19) = M19
  intro hk19 hu19
  clear hk18 hu18
  refine go_kn (k' := 19) (n' := 5960) (sz' := r + 20) (by omega) (by omega) (by omega) ?_
  refine go_aload_n X d_Model_init_159 rfl rfl ?_
  refine go_bipush (v := 8) X d_Model_init_160 (by decide) ?_
  refine go_newa (N := 8) (ty := .int) X w_ac_int rfl (by simp) (by decide) (by omega) (by omega) d_Model_init_162 ?_
  refine go_putF (x := r + 20) (v := vr (r + 20)) X f_Model_68 rfl ((hk19.step (t := .int) (N := 8) (f := 35) (sz := r + 20) (L' := (mL.take 20)) (by show r + 20 = r + ((19 : Nat) : Int) + 1; omega) (by decide) rfl).1) rfl d_Model_init_164 (s_varr rfl (by omega)) rfl rfl f_Model_68w ?_
  have hk20 := hk19.step (t := .int) (N := 8) (f := 35) (sz := r + 20) (L' := (mL.take 20)) (by show r + 20 = r + ((19 : Nat) : Int) + 1; omega) (by decide) rfl
  have hu20 : up r sh M (s_up sh19 (r + 20) (.inr (.int, 8))) (m_s (m_new M19 (r + 20) (fun _ => 0)) r 35 (r + 20)) := (hu19.tr (b := r + 20) up.new (by omega)).set (by omega)
  revert hk20 hu20
  generalize s_up sh19 (r + 20) (.inr (.int, 8)) = sh20
  generalize m_s (m_new M19 (r + 20) (fun _ => 0)) r 35 (r + 20) = M20
  intro hk20 hu20
  clear hk19 hu19
  refine go_kn (k' := 20) (n' := 5968) (sz' := r + 21) (by omega) (by omega) (by omega) ?_
  refine go_aload_n X d_Model_init_167 rfl rfl ?_
  refine go_bipush (v := 8) X d_Model_init_168 (by decide) ?_
  refine go_newa (N := 8) (ty := .long) X w_ac_long rfl (by simp) (by decide) (by omega) (by omega) d_Model_init_170 ?_
  refine go_putF (x := r + 21) (v := vr (r + 21)) X f_Model_71 rfl ((hk20.step (t := .long) (N := 8) (f := 36) (sz := r + 21) (L' := (mL.take 21)) (by show r + 21 = r + ((20 : Nat) : Int) + 1; omega) (by decide) rfl).1) rfl d_Model_init_172 (s_varr rfl (by omega)) rfl rfl f_Model_71w ?_
  have hk21 := hk20.step (t := .long) (N := 8) (f := 36) (sz := r + 21) (L' := (mL.take 21)) (by show r + 21 = r + ((20 : Nat) : Int) + 1; omega) (by decide) rfl
  have hu21 : up r sh M (s_up sh20 (r + 21) (.inr (.long, 8))) (m_s (m_new M20 (r + 21) (fun _ => 0)) r 36 (r + 21)) := (hu20.tr (b := r + 21) up.new (by omega)).set (by omega)
  revert hk21 hu21
  generalize s_up sh20 (r + 21) (.inr (.long, 8)) = sh21
  generalize m_s (m_new M20 (r + 21) (fun _ => 0)) r 36 (r + 21) = M21
  intro hk21 hu21
  clear hk20 hu20
  refine go_kn (k' := 21) (n' := 5976) (sz' := r + 22) (by omega) (by omega) (by omega) ?_
  refine go_aload_n X d_Model_init_175 rfl rfl ?_
  refine go_bipush (v := 40) X d_Model_init_176 (by decide) ?_
  refine go_newa (N := 40) (ty := .int) X w_ac_int rfl (by simp) (by decide) (by omega) (by omega) d_Model_init_178 ?_
  refine go_putF (x := r + 22) (v := vr (r + 22)) X f_Model_74 rfl ((hk21.step (t := .int) (N := 40) (f := 39) (sz := r + 22) (L' := (mL.take 22)) (by show r + 22 = r + ((21 : Nat) : Int) + 1; omega) (by decide) rfl).1) rfl d_Model_init_180 (s_varr rfl (by omega)) rfl rfl f_Model_74w ?_
  have hk22 := hk21.step (t := .int) (N := 40) (f := 39) (sz := r + 22) (L' := (mL.take 22)) (by show r + 22 = r + ((21 : Nat) : Int) + 1; omega) (by decide) rfl
  have hu22 : up r sh M (s_up sh21 (r + 22) (.inr (.int, 40))) (m_s (m_new M21 (r + 22) (fun _ => 0)) r 39 (r + 22)) := (hu21.tr (b := r + 22) up.new (by omega)).set (by omega)
  revert hk22 hu22
  generalize s_up sh21 (r + 22) (.inr (.int, 40)) = sh22
  generalize m_s (m_new M21 (r + 22) (fun _ => 0)) r 39 (r + 22) = M22
  intro hk22 hu22
  clear hk21 hu21
  refine go_kn (k' := 22) (n' := 6016) (sz' := r + 23) (by omega) (by omega) (by omega) ?_
  refine go_aload_n X d_Model_init_183 rfl rfl ?_
  refine go_bipush (v := 40) X d_Model_init_184 (by decide) ?_
  refine go_newa (N := 40) (ty := .int) X w_ac_int rfl (by simp) (by decide) (by omega) (by omega) d_Model_init_186 ?_
  refine go_putF (x := r + 23) (v := vr (r + 23)) X f_Model_77 rfl ((hk22.step (t := .int) (N := 40) (f := 40) (sz := r + 23) (L' := (mL.take 23)) (by show r + 23 = r + ((22 : Nat) : Int) + 1; omega) (by decide) rfl).1) rfl d_Model_init_188 (s_varr rfl (by omega)) rfl rfl f_Model_77w ?_
  have hk23 := hk22.step (t := .int) (N := 40) (f := 40) (sz := r + 23) (L' := (mL.take 23)) (by show r + 23 = r + ((22 : Nat) : Int) + 1; omega) (by decide) rfl
  have hu23 : up r sh M (s_up sh22 (r + 23) (.inr (.int, 40))) (m_s (m_new M22 (r + 23) (fun _ => 0)) r 40 (r + 23)) := (hu22.tr (b := r + 23) up.new (by omega)).set (by omega)
  revert hk23 hu23
  generalize s_up sh22 (r + 23) (.inr (.int, 40)) = sh23
  generalize m_s (m_new M22 (r + 23) (fun _ => 0)) r 40 (r + 23) = M23
  intro hk23 hu23
  clear hk22 hu22
  refine go_kn (k' := 23) (n' := 6056) (sz' := r + 24) (by omega) (by omega) (by omega) ?_
  refine go_aload_n X d_Model_init_191 rfl rfl ?_
  refine go_bipush (v := 40) X d_Model_init_192 (by decide) ?_
  refine go_newa (N := 40) (ty := .int) X w_ac_int rfl (by simp) (by decide) (by omega) (by omega) d_Model_init_194 ?_
  refine go_putF (x := r + 24) (v := vr (r + 24)) X f_Model_80 rfl ((hk23.step (t := .int) (N := 40) (f := 41) (sz := r + 24) (L' := (mL.take 24)) (by show r + 24 = r + ((23 : Nat) : Int) + 1; omega) (by decide) rfl).1) rfl d_Model_init_196 (s_varr rfl (by omega)) rfl rfl f_Model_80w ?_
  have hk24 := hk23.step (t := .int) (N := 40) (f := 41) (sz := r + 24) (L' := (mL.take 24)) (by show r + 24 = r + ((23 : Nat) : Int) + 1; omega) (by decide) rfl
  have hu24 : up r sh M (s_up sh23 (r + 24) (.inr (.int, 40))) (m_s (m_new M23 (r + 24) (fun _ => 0)) r 41 (r + 24)) := (hu23.tr (b := r + 24) up.new (by omega)).set (by omega)
  revert hk24 hu24
  generalize s_up sh23 (r + 24) (.inr (.int, 40)) = sh24
  generalize m_s (m_new M23 (r + 24) (fun _ => 0)) r 41 (r + 24) = M24
  intro hk24 hu24
  clear hk23 hu23
  refine go_kn (k' := 24) (n' := 6096) (sz' := r + 25) (by omega) (by omega) (by omega) ?_
  refine go_aload_n X d_Model_init_199 rfl rfl ?_
  refine go_bipush (v := 40) X d_Model_init_200 (by decide) ?_
  refine go_newa (N := 40) (ty := .int) X w_ac_int rfl (by simp) (by decide) (by omega) (by omega) d_Model_init_202 ?_
  refine go_putF (x := r + 25) (v := vr (r + 25)) X f_Model_83 rfl ((hk24.step (t := .int) (N := 40) (f := 42) (sz := r + 25) (L' := (mL.take 25)) (by show r + 25 = r + ((24 : Nat) : Int) + 1; omega) (by decide) rfl).1) rfl d_Model_init_204 (s_varr rfl (by omega)) rfl rfl f_Model_83w ?_
  have hk25 := hk24.step (t := .int) (N := 40) (f := 42) (sz := r + 25) (L' := (mL.take 25)) (by show r + 25 = r + ((24 : Nat) : Int) + 1; omega) (by decide) rfl
  have hu25 : up r sh M (s_up sh24 (r + 25) (.inr (.int, 40))) (m_s (m_new M24 (r + 25) (fun _ => 0)) r 42 (r + 25)) := (hu24.tr (b := r + 25) up.new (by omega)).set (by omega)
  revert hk25 hu25
  generalize s_up sh24 (r + 25) (.inr (.int, 40)) = sh25
  generalize m_s (m_new M24 (r + 25) (fun _ => 0)) r 42 (r + 25) = M25
  intro hk25 hu25
  clear hk24 hu24
  refine go_kn (k' := 25) (n' := 6136) (sz' := r + 26) (by omega) (by omega) (by omega) ?_
  refine go_aload_n X d_Model_init_207 rfl rfl ?_
  refine go_sipush (v := 184) X d_Model_init_208 (by decide) ?_
  refine go_newa (N := 184) (ty := .int) X w_ac_int rfl (by simp) (by decide) (by omega) (by omega) d_Model_init_211 ?_
  refine go_putF (x := r + 26) (v := vr (r + 26)) X f_Model_86 rfl ((hk25.step (t := .int) (N := 184) (f := 46) (sz := r + 26) (L' := (mL.take 26)) (by show r + 26 = r + ((25 : Nat) : Int) + 1; omega) (by decide) rfl).1) rfl d_Model_init_213 (s_varr rfl (by omega)) rfl rfl f_Model_86w ?_
  have hk26 := hk25.step (t := .int) (N := 184) (f := 46) (sz := r + 26) (L' := (mL.take 26)) (by show r + 26 = r + ((25 : Nat) : Int) + 1; omega) (by decide) rfl
  have hu26 : up r sh M (s_up sh25 (r + 26) (.inr (.int, 184))) (m_s (m_new M25 (r + 26) (fun _ => 0)) r 46 (r + 26)) := (hu25.tr (b := r + 26) up.new (by omega)).set (by omega)
  revert hk26 hu26
  generalize s_up sh25 (r + 26) (.inr (.int, 184)) = sh26
  generalize m_s (m_new M25 (r + 26) (fun _ => 0)) r 46 (r + 26) = M26
  intro hk26 hu26
  clear hk25 hu25
  refine go_kn (k' := 26) (n' := 6320) (sz' := r + 27) (by omega) (by omega) (by omega) ?_
  refine go_aload_n X d_Model_init_216 rfl rfl ?_
  refine go_bipush (v := 24) X d_Model_init_217 (by decide) ?_
  refine go_newa (N := 24) (ty := .int) X w_ac_int rfl (by simp) (by decide) (by omega) (by omega) d_Model_init_219 ?_
  refine go_putF (x := r + 27) (v := vr (r + 27)) X f_Model_89 rfl ((hk26.step (t := .int) (N := 24) (f := 47) (sz := r + 27) (L' := (mL.take 27)) (by show r + 27 = r + ((26 : Nat) : Int) + 1; omega) (by decide) rfl).1) rfl d_Model_init_221 (s_varr rfl (by omega)) rfl rfl f_Model_89w ?_
  have hk27 := hk26.step (t := .int) (N := 24) (f := 47) (sz := r + 27) (L' := (mL.take 27)) (by show r + 27 = r + ((26 : Nat) : Int) + 1; omega) (by decide) rfl
  have hu27 : up r sh M (s_up sh26 (r + 27) (.inr (.int, 24))) (m_s (m_new M26 (r + 27) (fun _ => 0)) r 47 (r + 27)) := (hu26.tr (b := r + 27) up.new (by omega)).set (by omega)
  revert hk27 hu27
  generalize s_up sh26 (r + 27) (.inr (.int, 24)) = sh27
  generalize m_s (m_new M26 (r + 27) (fun _ => 0)) r 47 (r + 27) = M27
  intro hk27 hu27
  clear hk26 hu26
  refine go_kn (k' := 27) (n' := 6344) (sz' := r + 28) (by omega) (by omega) (by omega) ?_
  refine go_aload_n X d_Model_init_224 rfl rfl ?_
  refine go_sipush (v := 4320) X d_Model_init_225 (by decide) ?_
  refine go_newa (N := 4320) (ty := .int) X w_ac_int rfl (by simp) (by decide) (by omega) (by omega) d_Model_init_228 ?_
  refine go_putF (x := r + 28) (v := vr (r + 28)) X f_Model_92 rfl ((hk27.step (t := .int) (N := 4320) (f := 48) (sz := r + 28) (L' := (mL.take 28)) (by show r + 28 = r + ((27 : Nat) : Int) + 1; omega) (by decide) rfl).1) rfl d_Model_init_230 (s_varr rfl (by omega)) rfl rfl f_Model_92w ?_
  have hk28 := hk27.step (t := .int) (N := 4320) (f := 48) (sz := r + 28) (L' := (mL.take 28)) (by show r + 28 = r + ((27 : Nat) : Int) + 1; omega) (by decide) rfl
  have hu28 : up r sh M (s_up sh27 (r + 28) (.inr (.int, 4320))) (m_s (m_new M27 (r + 28) (fun _ => 0)) r 48 (r + 28)) := (hu27.tr (b := r + 28) up.new (by omega)).set (by omega)
  revert hk28 hu28
  generalize s_up sh27 (r + 28) (.inr (.int, 4320)) = sh28
  generalize m_s (m_new M27 (r + 28) (fun _ => 0)) r 48 (r + 28) = M28
  intro hk28 hu28
  clear hk27 hu27
  refine go_kn (k' := 28) (n' := 10664) (sz' := r + 29) (by omega) (by omega) (by omega) ?_
  refine go_vret X d_Model_init_233 rfl (by omega) (by omega) ?_
  exact ⟨rfl, rfl, hu28, hk28⟩
