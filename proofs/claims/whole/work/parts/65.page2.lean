theorem kl_take {t : List Int} {e : Int} (h : 0 ≤ e ∧ e ≤ t.length) : [] ++ sl t (max 0 0) (min (min e (t.length : Int) - max 0 0) ((e.toNat : Int) - (([] : List Int).length : Int))) = t.take e.toNat := by
  have e1 : (min (min e (t.length : Int) - max 0 0) ((e.toNat : Int) - (([] : List Int).length : Int))).toNat = e.toNat := by
    have e0 : (([] : List Int).length : Int) = 0 := rfl
    rw [e0]
    omega
  unfold sl
  rw [e1]
  rfl
theorem kc_1 {n : Int} (h0 : 0 ≤ n) (h : n < 24) : kc n (n + 1) = 2 := by
  unfold kc
  omega
theorem kc_0 {n : Int} (h : 24 ≤ n) : kc n (n + 1) = 0 := by
  unfold kc
  omega
def kpA (n : Int) (A : Int → Int) (sz : Int) : Int → Int := if n < 24 then rset A n sz else A
def kpK (n : Int) (K : Int → List Int) (u : List Int) : Int → List Int := if n < 24 then lset K n u else K
set_option maxHeartbeats 4000000 in
set_option maxRecDepth 100000 in
theorem c_Page_keepLine (l : Launch) (D : va_G) {sh : s_S} {M : s_M} {sz p n : Int} {t : List Int} (h : pg0 sh M p n t) {lb : Int} {A : Int → Int} {K : Int → List Int} (hl : pgl sh M (p + 3) lb sz n A K) (hb : p + 4 ≤ lb ∧ lb ≤ sz) (hn : n < 2147483647) {e : Int} (he : 0 ≤ e ∧ e ≤ t.length) : Sp l D y_Page_keepLine prog_6_method_9_code 3 none 4 (kc n (n + 1)) (91 * kc n (n + 1)) [vr p, vi e] sh M sz (fun v' sh' M' sz' => v' = none ∧ sz' = sz + ((kc n (n + 1) : Nat) : Int) ∧ (∀ z, z < sz → sh' z = sh z) ∧ fr (fun z => z = p ∨ z = p + 3 ∨ sz ≤ z) M M' ∧ pg0 sh' M' p (n + 1) t ∧ pgl sh' M' (p + 3) lb (sz + ((kc n (n + 1) : Nat) : Int)) (n + 1) (kpA n A sz) (kpK n K (t.take e.toNat))) := by
  have hh := h
  obtain ⟨h1, h2, h3, h4, h5, h6, h7, h8⟩ := h
  have hln := h8.len
  have hup := up.rf (a := sz) (sh := sh) (M := M)
  refine Sp.ofGo (own := "CiteForge$Page") (nm := "keepLine") (by decide) rfl rfl (Nat.le_of_ble_eq_true rfl) (lv := [(0, vr p), (1, vi e)]) rfl ?_
  intro g X
  refine go_aload_n X d_Page_keepLine_0 rfl rfl ?_
  refine go_get (v := vi n) X f_Page_22 h1 rfl d_Page_keepLine_1 (congrArg (s_v .int) h5) ?_
  refine go_bipush (v := 24) X d_Page_keepLine_4 (by decide) ?_
  refine go_icmp_ge (tgt := 38) X d_Page_keepLine_6 rfl (by omega) (by omega) (fun hq1 => ?_) (fun hq1 => ?_)
  · skip
    have g2a := kc_0 (n := n) (by omega)
    refine go_aload_n X d_Page_keepLine_38 rfl rfl ?_
    refine go_dup X d_Page_keepLine_39 rfl ?_
    refine go_get (v := vi n) X f_Page_22 h1 rfl d_Page_keepLine_40 (congrArg (s_v .int) h5) ?_
    refine go_iconst (v := 1) X d_Page_keepLine_43 ?_
    refine go_iadd X d_Page_keepLine_44 ?_
    refine go_put (x := (n + 1)) (v := vi (n + 1)) X f_Page_22 h1 rfl d_Page_keepLine_45 rfl rfl rfl ?_
    generalize hM3 : m_s M p 2 (n + 1) = M2
    have hlast : ∀ z, z ≠ p → M2 z = M z := fun z hz => by rw [← hM3]; exact m_s_a hz
    have e4 : M2 p 0 = p + 1 := by rw [← hM3]; exact (m_s_n (fun q => absurd q.2 (by decide))).trans h3
    have e5 : M2 p 1 = p + 3 := by rw [← hM3]; exact (m_s_n (fun q => absurd q.2 (by decide))).trans h4
    have pd6 : tv sh M2 (p + 1) 180 t := by rw [← hM3]; exact h8.mv (as_set (by omega))
    have e7 : M2 p 2 = n + 1 := by rw [← hM3, m_s_s]
    have fr8 : fr (fun z => z = p ∨ z = p + 3 ∨ sz ≤ z) M M2 := fun z hz => by
      have hz1 : ¬ (z = p ∨ z = p + 3 ∨ sz ≤ z) := hz
      rw [← hM3]; exact (m_s_a (by omega))
    clear hM3
    refine go_vret X d_Page_keepLine_48 rfl (by omega) (by omega) ?_
    have g1 : 24 ≤ n := by omega
    have g2 := kc_0 g1
    rw [show kpA n A sz = A from if_neg (by omega), show kpK n K (t.take e.toNat) = K from if_neg (by omega)]
    have hM3 : M2 (p + 3) = M (p + 3) := hlast (p + 3) (by omega)
    exact ⟨rfl, by omega, fun z _ => rfl, fr8, ⟨h1, h2, e4, e5, e7, by omega, h7, pd6⟩, by rw [show sz + ((kc n (n + 1) : Nat) : Int) = sz by omega]; exact (hl.skip g1).mv hM3 (fun z z1 z2 => ⟨rfl, fr8 z (by show ¬ (z = p ∨ z = p + 3 ∨ sz ≤ z); omega)⟩)⟩
  · skip
    have hlt : n < 24 := by omega
    have g2 := kc_1 (n := n) (by omega) hlt
    refine go_new (ts := ts_Text) (f := (fun j => if j = 0 then -1 else 0)) X cls0_ok w_cl_Page_7 w_in_0 w_ini_0 (by decide) (by decide) (by omega) (by omega) d_Page_keepLine_9 ?_
    generalize hs10 : s_up sh sz (.inl (0, ts_Text)) = sh9
    generalize hM12 : m_new M sz (fun j => if j = 0 then -1 else 0) = M11
    have hu13 : up sz sh M sh9 M11 := by rw [← hs10, ← hM12]; exact up.new
    have e14 : sh9 p = some (.inl (8, ts_Page)) := hu13.s (by omega) h1
    have e15 : sh9 (p + 3) = some (.inr (.object "CiteForge$Text", 24)) := hu13.s (by omega) h2
    have e16 : sh9 (p + 1) = some (.inl (0, ts_Text)) := hu13.s (by omega) h8.1.1
    have e17 : M11 p 0 = p + 1 := hu13.m (by omega) h3
    have e18 : M11 p 1 = p + 3 := hu13.m (by omega) h4
    have e19 : M11 p 2 = n := hu13.m (by omega) h5
    have pd20 : tv sh9 M11 (p + 1) 180 t := h8.mv (hu13.as (by omega))
    have up21 : up sz sh M sh9 M11 := hup.tr hu13 (by omega)
    have e22 : sh9 sz = some (.inl (0, ts_Text)) := by rw [← hs10, s_up_s]
    have rw23 : M11 sz = (fun j => if j = 0 then -1 else 0) := by rw [← hM12, m_new_s]
    clear hs10 hM12 hu13
    refine go_kn (k' := 1) (n' := 2) (sz' := sz + 1) (by omega) (by omega) (by omega) ?_
    refine go_dup X d_Page_keepLine_12 rfl ?_
    refine go_iload_n X d_Page_keepLine_13 rfl rfl ?_
    refine go_cI (st2 := []) (r := [vr sz]) X k_Page_11 (c_Text_init l D e22 rw23 (by omega) (by omega) (c := e) (N := e.toNat) (by omega) (by omega)) rfl rfl (by omega) (Nat.le_of_ble_eq_true rfl) d_Page_keepLine_14 (by omega) (by omega) (fun v sh24 M25 sz' hp => ?_)
    obtain ⟨g1, g2, hu, hx⟩ := hp
    subst g1
    refine go_kn (k' := 2) (n' := 2 + e.toNat) (sz' := sz + 2) (by omega) (by omega) (by omega) ?_
    show Go g 2 (2 + e.toNat) sh24 M25 (sz + 2) 17 [(0, vr p), (1, vi e)] [vr sz]
    have e26 : sh24 p = some (.inl (8, ts_Page)) := hu.s (by omega) e14
    have e27 : sh24 (p + 3) = some (.inr (.object "CiteForge$Text", 24)) := hu.s (by omega) e15
    have e28 : sh24 (p + 1) = some (.inl (0, ts_Text)) := hu.s (by omega) e16
    have e29 : M25 p 0 = p + 1 := hu.m (by omega) e17
    have e30 : M25 p 1 = p + 3 := hu.m (by omega) e18
    have e31 : M25 p 2 = n := hu.m (by omega) e19
    have pd32 : tv sh24 M25 (p + 1) 180 t := pd20.mv (hu.as (by omega))
    have up33 : up sz sh M sh24 M25 := up21.tr hu (by omega)
    clear e14 e15 e16 e17 e18 e19 e22 pd20 rw23
    have es : sh24 sz = some (.inl (0, ts_Text)) := hx.1.1
    have fr0 : fr (fun z => z = p ∨ z = p + 3 ∨ sz ≤ z) M M25 := fun z hz => by
      have hz1 : ¬ (z = p ∨ z = p + 3 ∨ sz ≤ z) := hz
      exact (up33 z (by omega)).2
    have hupk := up33
    refine go_astore_n (lv' := [(2, vr sz), (0, vr p), (1, vi e)]) X d_Page_keepLine_17 rfl (by decide) rfl ?_
    refine go_aload_n X d_Page_keepLine_18 rfl rfl ?_
    refine go_aload_n X d_Page_keepLine_19 rfl rfl ?_
    refine go_get (v := vr (p + 1)) X f_Page_14 e26 rfl d_Page_keepLine_20 (s_vref e29 (by omega)) ?_
    refine go_iconst (v := 0) X d_Page_keepLine_23 ?_
    refine go_iload_n X d_Page_keepLine_24 rfl rfl ?_
    refine go_cV (st2 := []) (r := []) X k_Page_30 (c_Text_addPart l D hx pd32 (by omega) (by omega) (by omega)) es rfl rfl (by omega) (Nat.le_of_ble_eq_true rfl) d_Page_keepLine_25 (by omega) (by omega) (fun v' sh' M34 sz' hp35 => ?_)
    obtain ⟨e36, e37, e38, pd40, fr39⟩ := hp35
    subst e36
    rw [e37, e38]
    have hq3 := (fr39 (p + 3) (by omega)).trans (hupk (p + 3) (by omega)).2
    show Go g 2 (2 + e.toNat) sh24 M34 (sz + 2) 28 [(2, vr sz), (0, vr p), (1, vi e)] []
    have e41 : M34 p 0 = p + 1 := (congrFun (fr39 p (by omega)) _).trans e29
    have e42 : M34 p 1 = p + 3 := (congrFun (fr39 p (by omega)) _).trans e30
    have e43 : M34 p 2 = n := (congrFun (fr39 p (by omega)) _).trans e31
    have pd44 : tv sh24 M34 (p + 1) 180 t := pd32.mv (fun z h1 h2 => ⟨rfl, fr39 z (by omega)⟩)
    have fr45 : fr (fun z => z = p ∨ z = p + 3 ∨ sz ≤ z) M M34 := fun z hz => by
      have hz1 : ¬ (z = p ∨ z = p + 3 ∨ sz ≤ z) := hz
      exact (fr39 z (by omega)).trans (fr0 z hz)
    clear e29 e30 e31 fr0 pd32
    rw [kl_take he] at pd40
    have htk : tv sh24 M34 sz (t.take e.toNat).length (t.take e.toNat) := by rw [show (t.take e.toNat).length = e.toNat by rw [List.length_take]; omega]; exact pd40
    have l1 : pgl sh24 M34 (p + 3) lb sz n A K := hl.mv hq3 (fun z z1 z2 => ⟨(hupk z (by omega)).1, fr45 z (by show ¬ (z = p ∨ z = p + 3 ∨ sz ≤ z); omega)⟩)
    have l2 := l1.push (a := sz) (ub' := sz + 2) htk (by omega) (by omega) (by omega) (by omega)
    refine go_aload_n X d_Page_keepLine_28 rfl rfl ?_
    refine go_get (v := vr (p + 3)) X f_Page_18 e26 rfl d_Page_keepLine_29 (s_varr e42 (by omega)) ?_
    refine go_aload_n X d_Page_keepLine_32 rfl rfl ?_
    refine go_get (v := vi n) X f_Page_22 e26 rfl d_Page_keepLine_33 (congrArg (s_v .int) e43) ?_
    refine go_aload_n X d_Page_keepLine_36 rfl rfl ?_
    refine go_aast X e27 (by omega) (by omega) (cls0) es d_Page_keepLine_37 ?_
    generalize hM47 : m_s M34 (p + 3) n sz = M46
    have hkp : M46 = m_s M34 (p + 3) n sz := hM47.symm
    have e48 : M46 p 0 = p + 1 := by rw [← hM47]; exact (m_s_n (fun q => absurd q.1 (of_ne1 (by decide)))).trans e41
    have e49 : M46 p 1 = p + 3 := by rw [← hM47]; exact (m_s_n (fun q => absurd q.1 (of_ne1 (by decide)))).trans e42
    have e50 : M46 p 2 = n := by rw [← hM47]; exact (m_s_n (fun q => absurd q.1 (of_ne1 (by decide)))).trans e43
    have pd51 : tv sh24 M46 (p + 1) 180 t := by rw [← hM47]; exact pd44.mv (as_set (by omega))
    have pd52 : tv sh24 M46 sz e.toNat (t.take e.toNat) := by rw [← hM47]; exact pd40.mv (as_set (by omega))
    have e53 : M46 (p + 3) n = sz := by rw [← hM47, m_s_s]
    have fr54 : fr (fun z => z = p ∨ z = p + 3 ∨ sz ≤ z) M M46 := fun z hz => by
      have hz1 : ¬ (z = p ∨ z = p + 3 ∨ sz ≤ z) := hz
      rw [← hM47]; exact (m_s_a (by omega)).trans (fr45 z hz)
    clear e41 e42 e43 fr45 pd40 pd44 hM47
    refine go_aload_n X d_Page_keepLine_38 rfl rfl ?_
    refine go_dup X d_Page_keepLine_39 rfl ?_
    refine go_get (v := vi n) X f_Page_22 e26 rfl d_Page_keepLine_40 (congrArg (s_v .int) e50) ?_
    refine go_iconst (v := 1) X d_Page_keepLine_43 ?_
    refine go_iadd X d_Page_keepLine_44 ?_
    refine go_put (x := (n + 1)) (v := vi (n + 1)) X f_Page_22 e26 rfl d_Page_keepLine_45 rfl rfl rfl ?_
    generalize hM56 : m_s M46 p 2 (n + 1) = M55
    have hlast : ∀ z, z ≠ p → M55 z = M46 z := fun z hz => by rw [← hM56]; exact m_s_a hz
    have e57 : M55 p 0 = p + 1 := by rw [← hM56]; exact (m_s_n (fun q => absurd q.2 (by decide))).trans e48
    have e58 : M55 p 1 = p + 3 := by rw [← hM56]; exact (m_s_n (fun q => absurd q.2 (by decide))).trans e49
    have e59 : M55 (p + 3) n = sz := by rw [← hM56]; exact (m_s_n (fun q => absurd q.1 (of_ne0 (by decide)))).trans e53
    have pd60 : tv sh24 M55 (p + 1) 180 t := by rw [← hM56]; exact pd51.mv (as_set (by omega))
    have pd61 : tv sh24 M55 sz e.toNat (t.take e.toNat) := by rw [← hM56]; exact pd52.mv (as_set (by omega))
    have e62 : M55 p 2 = n + 1 := by rw [← hM56, m_s_s]
    have fr63 : fr (fun z => z = p ∨ z = p + 3 ∨ sz ≤ z) M M55 := fun z hz => by
      have hz1 : ¬ (z = p ∨ z = p + 3 ∨ sz ≤ z) := hz
      rw [← hM56]; exact (m_s_a (by omega)).trans (fr54 z hz)
    clear e48 e49 e50 e53 fr54 pd51 pd52 hM56
    refine go_vret X d_Page_keepLine_48 rfl (by omega) (by omega) ?_
    rw [hkp] at hlast
    rw [show kpA n A sz = rset A n sz from if_pos hlt, show kpK n K (t.take e.toNat) = lset K n (t.take e.toNat) from if_pos hlt]
    exact ⟨rfl, by omega, fun z hz => (hupk z hz).1, fr63, ⟨e26, e27, e57, e58, e62, by omega, h7, pd60⟩, by rw [show sz + ((kc n (n + 1) : Nat) : Int) = sz + 2 by omega]; exact l2.mv (hlast (p + 3) (by omega)) (fun z z1 z2 => ⟨rfl, hlast z (by omega)⟩)⟩
