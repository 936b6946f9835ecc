abbrev pgs : Type := Int × List Int × (Int → List Int)
/-- lines are broken off as long as the line at hand is too long -/
def pob : Nat → pgs → pgs
  | 0, s => s
  | m + 1, s => if 30 < s.2.1.length then (if bpl s.2.1 < 0 then s else pob m (s.1 + 1, 32 :: 32 :: s.2.1.drop (bpl s.2.1 + 1).toNat, kpK s.1 s.2.2 (s.2.1.take (bpl s.2.1).toNat))) else s
def poa (t u : List Int) : List Int := t ++ sl u (max 0 0) (min (min (u.length : Int) (u.length : Int) - max 0 0) (((180 : Nat) : Int) - t.length))
def po (u : List Int) (s : pgs) : pgs := pob 180 (s.1, poa s.2.1 u, s.2.2)
def eol (s : pgs) : pgs := if 0 < s.2.1.length then (s.1 + 1, [], kpK s.1 s.2.2 s.2.1) else s
theorem pob_ge : ∀ (m : Nat) (s : pgs), s.1 ≤ (pob m s).1
  | 0, s => Int.le_refl _
  | m + 1, s => by
    unfold pob
    split
    · split
      · exact Int.le_refl _
      · have h := pob_ge m (s.1 + 1, 32 :: 32 :: s.2.1.drop (bpl s.2.1 + 1).toNat, kpK s.1 s.2.2 (s.2.1.take (bpl s.2.1).toNat))
        have h2 : s.1 + 1 ≤ (pob m (s.1 + 1, 32 :: 32 :: s.2.1.drop (bpl s.2.1 + 1).toNat, kpK s.1 s.2.2 (s.2.1.take (bpl s.2.1).toNat))).1 := h
        omega
    · exact Int.le_refl _
theorem pob_le : ∀ (m : Nat) (s : pgs), (pob m s).1 ≤ s.1 + m
  | 0, s => by show s.1 ≤ s.1 + ((0 : Nat) : Int); omega
  | m + 1, s => by
    unfold pob
    split
    · split
      · omega
      · have h := pob_le m (s.1 + 1, 32 :: 32 :: s.2.1.drop (bpl s.2.1 + 1).toNat, kpK s.1 s.2.2 (s.2.1.take (bpl s.2.1).toNat))
        have h2 : (pob m (s.1 + 1, 32 :: 32 :: s.2.1.drop (bpl s.2.1 + 1).toNat, kpK s.1 s.2.2 (s.2.1.take (bpl s.2.1).toNat))).1 ≤ s.1 + 1 + m := h
        omega
    · omega
theorem pob_go {i : Int} {s : pgs} (hi : 0 ≤ i ∧ i < 180) (h1 : 30 < s.2.1.length) (h2 : ¬ bpl s.2.1 < 0) : pob (180 - i).toNat s = pob (180 - (i + 1)).toNat (s.1 + 1, 32 :: 32 :: s.2.1.drop (bpl s.2.1 + 1).toNat, kpK s.1 s.2.2 (s.2.1.take (bpl s.2.1).toNat)) := by
  rw [show (180 - i).toNat = (180 - (i + 1)).toNat + 1 by omega]
  exact (if_pos h1).trans (if_neg h2)
theorem pob_no {i : Int} {s : pgs} (h : i < 180 → 30 < s.2.1.length → bpl s.2.1 < 0) : pob (180 - i).toNat s = s := by
  by_cases hi : i < 180
  · rw [show (180 - i).toNat = (180 - (i + 1)).toNat + 1 by omega]
    by_cases h1 : 30 < s.2.1.length
    · exact (if_pos h1).trans (if_pos (h hi h1))
    · exact if_neg h1
  · rw [show (180 - i).toNat = 0 by omega]
    rfl
theorem kc_le {a b c : Int} (h : b ≤ c) : kc a b ≤ kc a c := by
  unfold kc
  omega
set_option maxHeartbeats 4000000 in
set_option maxRecDepth 100000 in
theorem c_Page_endLine (l : Launch) (D : va_G) {sh : s_S} {M : s_M} {sz p n : Int} {t : List Int} (h : pg0 sh M p n t) {lb : Int} {A : Int → Int} {K : Int → List Int} (hl : pgl sh M (p + 3) lb sz n A K) (hb : p + 4 ≤ lb ∧ lb ≤ sz) (hn : n < 2147483647) : Sp l D y_Page_endLine prog_6_method_7_code 1 none 5 (kc n (eol (n, t, K)).1) (91 * kc n (eol (n, t, K)).1) [vr p] sh M sz (fun v' sh' M' sz' => v' = none ∧ sz' = sz + ((kc n (eol (n, t, K)).1 : Nat) : Int) ∧ (∀ z, z < sz → sh' z = sh z) ∧ fr (fun z => (p ≤ z ∧ z ≤ p + 3) ∨ sz ≤ z) M M' ∧ pg0 sh' M' p (eol (n, t, K)).1 (eol (n, t, K)).2.1 ∧ ∃ A', pgl sh' M' (p + 3) lb sz' (eol (n, t, K)).1 A' (eol (n, t, K)).2.2) := by
  have hp0 := h.2.2.2.2.2.2.1
  have hn0 := h.2.2.2.2.2.1
  have hln := h.2.2.2.2.2.2.2.len
  have hmm : 0 < t.length → kc n (eol (n, t, K)).1 = kc n (n + 1) := fun q => by rw [show eol (n, t, K) = (n + 1, [], kpK n K t) from if_pos q]
  refine Sp.ofGo (own := "CiteForge$Page") (nm := "endLine") (by decide) rfl rfl (Nat.le_of_ble_eq_true rfl) (lv := [(0, vr p)]) rfl ?_
  intro g X
  refine go_aload_n X d_Page_endLine_0 rfl rfl ?_
  refine go_get (v := vr (p + 1)) X f_Page_14 h.1 rfl d_Page_endLine_1 (s_vref h.2.2.1 (by omega)) ?_
  refine go_cVf (st2 := [vi (t.length : Int)]) (r := []) X k_Page_26 (k_Text_size l D h.2.2.2.2.2.2.2) h.2.2.2.2.2.2.2.1.1 rfl rfl (by omega) (Nat.le_of_ble_eq_true rfl) d_Page_endLine_4 (by omega) (by omega) rfl ?_
  refine go_if_le (tgt := 28) X d_Page_endLine_7 rfl (by omega) (fun hq1 => ?_) (fun hq1 => ?_)
  · skip
    refine go_vret X d_Page_endLine_28 rfl (by omega) (by omega) ?_
    have e0 : eol (n, t, K) = (n, t, K) := if_neg (by show ¬ 0 < t.length; omega)
    rw [e0]
    have e1 : kc n (n, t, K).1 = 0 := kc_self n
    exact ⟨rfl, by omega, fun z _ => rfl, fun z _ => rfl, h, A, hl⟩
  · skip
    have e0 : eol (n, t, K) = (n + 1, [], kpK n K t) := if_pos (by show 0 < t.length; omega)
    have e9 : (eol (n, t, K)).1 = n + 1 := by rw [e0]
    refine go_aload_n X d_Page_endLine_10 rfl rfl ?_
    refine go_aload_n X d_Page_endLine_11 rfl rfl ?_
    refine go_get (v := vr (p + 1)) X f_Page_14 h.1 rfl d_Page_endLine_12 (s_vref h.2.2.1 (by omega)) ?_
    refine go_cVf (st2 := [vi (t.length : Int), vr p]) (r := [vr p]) X k_Page_26 (k_Text_size l D h.2.2.2.2.2.2.2) h.2.2.2.2.2.2.2.1.1 rfl rfl (by omega) (Nat.le_of_ble_eq_true rfl) d_Page_endLine_15 (by omega) (by omega) rfl ?_
    refine go_cV (st2 := []) (r := []) X k_Page_37 (c_Page_keepLine l D h hl (by omega) (by omega) (e := (t.length : Int)) (by omega)) h.1 rfl rfl (by omega) (Nat.le_of_ble_eq_true rfl) d_Page_endLine_18 (by omega) (by omega) (fun v' sh2 M3 sz4 hpp => ?_)
    obtain ⟨g1, hz5, hsk6, hfk7, hpg8, hpl9⟩ := hpp
    subst g1
    rw [← hz5] at hpl9
    show Go g (0 + kc n (n + 1)) (0 + 91 * kc n (n + 1)) sh2 M3 sz4 21 [(0, vr p)] []
    have hfk7x : fr (fun z => (p ≤ z ∧ z ≤ p + 3) ∨ sz ≤ z) M M3 := fun z hz => by
      have hz1 : ¬ ((p ≤ z ∧ z ≤ p + 3) ∨ sz ≤ z) := hz
      exact (hfk7 z (by show ¬ (z = p ∨ z = p + 3 ∨ sz ≤ z); omega))
    have hsk6x : ∀ z, z < sz → sh2 z = sh z := fun z hz => (hsk6 z (by omega))
    have hz52 := hz5
    refine go_aload_n X d_Page_endLine_21 rfl rfl ?_
    refine go_get (v := vr (p + 1)) X f_Page_14 hpg8.1 rfl d_Page_endLine_22 (s_vref hpg8.2.2.1 (by omega)) ?_
    refine go_cV (st2 := []) (r := []) X k_Page_43 (k_Text_reset l D hpg8.2.2.2.2.2.2.2) hpg8.2.2.2.2.2.2.2.1.1 rfl rfl (by omega) (Nat.le_of_ble_eq_true rfl) d_Page_endLine_25 (by omega) (by omega) (fun v' sh' M10 sz' hpp => ?_)
    obtain ⟨e11, e12, e13, tv14, fr15⟩ := hpp
    subst e11
    rw [e12, e13]
    show Go g (0 + kc n (n + 1)) (0 + 91 * kc n (n + 1)) sh2 M10 sz4 28 [(0, vr p)] []
    have hpg16 : pg0 sh2 M10 p (n + 1) ([]) := ⟨hpg8.1, hpg8.2.1, (congrFun (fr15 p (by omega)) _).trans hpg8.2.2.1, (congrFun (fr15 p (by omega)) _).trans hpg8.2.2.2.1, (congrFun (fr15 p (by omega)) _).trans hpg8.2.2.2.2.1, hpg8.2.2.2.2.2.1, hpg8.2.2.2.2.2.2.1, tv14⟩
    have hpl17 : pgl sh2 M10 (p + 3) lb sz4 (n + 1) (kpA n A sz) (kpK n K (t.take ((t.length : Int)).toNat)) := hpl9.mv (fr15 (p + 3) (by omega)) (fun z z1 z2 => ⟨rfl, fr15 z (by show ¬ (z = p + 1 ∨ z = p + 1 + 1); omega)⟩)
    have fr18 : fr (fun z => (p ≤ z ∧ z ≤ p + 3) ∨ sz ≤ z) M M10 := fun z hz => by
      have hz1 : ¬ ((p ≤ z ∧ z ≤ p + 3) ∨ sz ≤ z) := hz
      exact (fr15 z (by show ¬ (z = p + 1 ∨ z = p + 1 + 1); omega)).trans (hfk7x z hz)
    refine go_vret X d_Page_endLine_28 rfl (by omega) (by omega) ?_
    rw [e0]
    have ek : t.take ((t.length : Int)).toNat = t := by rw [Int.toNat_natCast, List.take_length]
    have hlf := hpl17
    rw [ek] at hlf
    exact ⟨rfl, hz5, hsk6x, fr18, hpg16, _, hlf⟩
set_option maxHeartbeats 4000000 in
set_option maxRecDepth 100000 in
theorem c_Page_putOut (l : Launch) (D : va_G) {sh : s_S} {M : s_M} {sz p n : Int} {t : List Int} (h : pg0 sh M p n t) {lb : Int} {A : Int → Int} {K : Int → List Int} (hl : pgl sh M (p + 3) lb sz n A K) (hb : p + 4 ≤ lb ∧ lb ≤ sz) (hn : n < 2147480000) {b : Int} {u : List Int} (hu : tv sh M b 60 u) (hbp : p + 3 < b) : Sp l D y_Page_putOut prog_6_method_6_code 4 none 6 (kc n (po u (n, t, K)).1) (91 * kc n (po u (n, t, K)).1) [vr p, vr b] sh M sz (fun v' sh' M' sz' => v' = none ∧ sz' = sz + ((kc n (po u (n, t, K)).1 : Nat) : Int) ∧ (∀ z, z < sz → sh' z = sh z) ∧ fr (fun z => (p ≤ z ∧ z ≤ p + 3) ∨ sz ≤ z) M M' ∧ pg0 sh' M' p (po u (n, t, K)).1 (po u (n, t, K)).2.1 ∧ ∃ A', pgl sh' M' (p + 3) lb sz' (po u (n, t, K)).1 A' (po u (n, t, K)).2.2) := by
  have hp0 := h.2.2.2.2.2.2.1
  have hn0 := h.2.2.2.2.2.1
  have hln := h.2.2.2.2.2.2.2.len
  have hul := hu.len
  refine Sp.ofGo (own := "CiteForge$Page") (nm := "putOut") (by decide) rfl rfl (Nat.le_of_ble_eq_true rfl) (lv := [(0, vr p), (1, vr b)]) rfl ?_
  intro g X
  refine go_aload_n X d_Page_putOut_0 rfl rfl ?_
  refine go_get (v := vr (p + 1)) X f_Page_14 h.1 rfl d_Page_putOut_1 (s_vref h.2.2.1 (by omega)) ?_
  refine go_aload_n X d_Page_putOut_4 rfl rfl ?_
  refine go_iconst (v := 0) X d_Page_putOut_5 ?_
  refine go_aload_n X d_Page_putOut_6 rfl rfl ?_
  refine go_cVf (st2 := [vi (u.length : Int), vi 0, vr b, vr (p + 1)]) (r := [vi 0, vr b, vr (p + 1)]) X k_Page_26 (k_Text_size l D hu) hu.1.1 rfl rfl (by omega) (Nat.le_of_ble_eq_true rfl) d_Page_putOut_7 (by omega) (by omega) rfl ?_
  refine go_cV (st2 := []) (r := []) X k_Page_30 (c_Text_addPart l D h.2.2.2.2.2.2.2 hu (by omega) (by omega) (by omega)) h.2.2.2.2.2.2.2.1.1 rfl rfl (by omega) (Nat.le_of_ble_eq_true rfl) d_Page_putOut_10 (by omega) (by omega) (fun v' sh' M1 sz' hpp => ?_)
  obtain ⟨e2, e3, e4, tv5, fr6⟩ := hpp
  subst e2
  rw [e3, e4]
  show Go g 0 0 sh M1 sz 13 [(0, vr p), (1, vr b)] []
  have hpg7 : pg0 sh M1 p n (poa t u) := ⟨h.1, h.2.1, (congrFun (fr6 p (by omega)) _).trans h.2.2.1, (congrFun (fr6 p (by omega)) _).trans h.2.2.2.1, (congrFun (fr6 p (by omega)) _).trans h.2.2.2.2.1, h.2.2.2.2.2.1, h.2.2.2.2.2.2.1, tv5⟩
  have hpl8 : pgl sh M1 (p + 3) lb sz n A K := hl.mv (fr6 (p + 3) (by omega)) (fun z z1 z2 => ⟨rfl, fr6 z (by show ¬ (z = p + 1 ∨ z = p + 1 + 1); omega)⟩)
  have fr9 : fr (fun z => (p ≤ z ∧ z ≤ p + 3) ∨ sz ≤ z) M M1 := fun z hz => by
    have hz1 : ¬ ((p ≤ z ∧ z ≤ p + 3) ∨ sz ≤ z) := hz
    exact (fr6 z (by show ¬ (z = p + 1 ∨ z = p + 1 + 1); omega))
  refine go_iconst (v := 0) X d_Page_putOut_13 ?_
  refine go_istore_n (lv' := [(2, vi 0), (0, vr p), (1, vr b)]) X d_Page_putOut_14 rfl (by decide) rfl ?_
  have lp : ∀ (fuel : Nat) (i n1 : Int) (t1 : List Int) (A1 : Int → Int) (K1 : Int → List Int) (shx : s_S) (Mx : s_M), 0 ≤ i ∧ i ≤ 180 → n ≤ n1 ∧ n1 ≤ n + i → pg0 shx Mx p n1 t1 → pgl shx Mx (p + 3) lb (sz + ((kc n n1 : Nat) : Int)) n1 A1 K1 → (∀ z, z < sz → shx z = sh z) → fr (fun z => (p ≤ z ∧ z ≤ p + 3) ∨ sz ≤ z) M Mx → pob (180 - i).toNat (n1, t1, K1) = po u (n, t, K) → (180 - i).toNat < fuel → Go g (kc n n1) (91 * kc n n1) shx Mx (sz + ((kc n n1 : Nat) : Int)) 15 [(0, vr p), (2, vi i)] [] := by
    intro fuel
    induction fuel with
    | zero => intro i n1 t1 A1 K1 shx Mx hi hn1 hpx hlx hsx hfx hp hm; exact absurd hm (Nat.not_lt_zero _)
    | succ fuel ih =>
      intro i n1 t1 A1 K1 shx Mx hi hn1 hpx hlx hsx hfx hp hm
      have hln1 := hpx.2.2.2.2.2.2.2.len
      have hgeN := pob_ge (180 - i).toNat (n1, t1, K1)
      rw [hp] at hgeN
      have hkn : kc n n1 ≤ kc n (po u (n, t, K)).1 := kc_le hgeN
      refine go_iload_n X d_Page_putOut_15 rfl rfl ?_
      refine go_sipush (v := 180) X d_Page_putOut_16 (by decide) ?_
      refine go_icmp_ge (tgt := 63) X d_Page_putOut_19 rfl (by omega) (by omega) (fun hq10 => ?_) (fun hq10 => ?_)
      · skip
        refine go_vret X d_Page_putOut_63 rfl (by omega) (by omega) ?_
        have hfin : po u (n, t, K) = (n1, t1, K1) := hp.symm.trans (pob_no (i := i) (s := (n1, t1, K1)) (fun q1 q2 => by have q3 : 30 < t1.length := q2; show bpl t1 < 0; omega))
        rw [hfin]
        exact ⟨rfl, rfl, hsx, hfx, hpx, A1, hlx⟩
      · skip
        refine go_aload_n X d_Page_putOut_22 rfl rfl ?_
        refine go_get (v := vr (p + 1)) X f_Page_14 hpx.1 rfl d_Page_putOut_23 (s_vref hpx.2.2.1 (by omega)) ?_
        refine go_cVf (st2 := [vi (t1.length : Int)]) (r := []) X k_Page_26 (k_Text_size l D hpx.2.2.2.2.2.2.2) hpx.2.2.2.2.2.2.2.1.1 rfl rfl (by omega) (Nat.le_of_ble_eq_true rfl) d_Page_putOut_26 (by omega) (by omega) rfl ?_
        refine go_bipush (v := 30) X d_Page_putOut_29 (by decide) ?_
        refine go_icmp_le (tgt := 63) X d_Page_putOut_31 rfl (by omega) (by omega) (fun hq11 => ?_) (fun hq11 => ?_)
        · skip
          refine go_vret X d_Page_putOut_63 rfl (by omega) (by omega) ?_
          have hfin : po u (n, t, K) = (n1, t1, K1) := hp.symm.trans (pob_no (i := i) (s := (n1, t1, K1)) (fun q1 q2 => by have q3 : 30 < t1.length := q2; show bpl t1 < 0; omega))
          rw [hfin]
          exact ⟨rfl, rfl, hsx, hfx, hpx, A1, hlx⟩
        · skip
          refine go_aload_n X d_Page_putOut_34 rfl rfl ?_
          refine go_cVf (st2 := [vi (bpl t1)]) (r := []) X k_Page_34 (c_Page_breakPlace l D hpx) hpx.1 rfl rfl (by omega) (Nat.le_of_ble_eq_true rfl) d_Page_putOut_35 (by omega) (by omega) rfl ?_
          have hbr := bpl_rng t1
          refine go_istore_n (lv' := [(3, vi (bpl t1)), (0, vr p), (2, vi i)]) X d_Page_putOut_38 rfl (by decide) rfl ?_
          refine go_iload_n X d_Page_putOut_39 rfl rfl ?_
          refine go_if_ge (tgt := 44) X d_Page_putOut_40 rfl (by omega) (fun hq12 => ?_) (fun hq12 => ?_)
          · skip
            have hge9 := pob_ge (180 - (i + 1)).toNat (n1 + 1, 32 :: 32 :: t1.drop (bpl t1 + 1).toNat, kpK n1 K1 (t1.take (bpl t1).toNat))
            rw [(pob_go (i := i) (s := (n1, t1, K1)) (by omega) (by show 30 < t1.length; omega) (by show ¬ bpl t1 < 0; omega)).symm.trans hp] at hge9
            have hge8 : n1 + 1 ≤ (po u (n, t, K)).1 := hge9
            have hk8 := kc_le (a := n) hge8
            have hk7 := kc_add (a := n) (b := n1) (c := n1 + 1) (by omega) (by omega)
            refine go_aload_n X d_Page_putOut_44 rfl rfl ?_
            refine go_iload_n X d_Page_putOut_45 rfl rfl ?_
            refine go_cV (st2 := []) (r := []) X k_Page_37 (c_Page_keepLine l D hpx hlx (by omega) (by omega) (e := bpl t1) (by omega)) hpx.1 rfl rfl (by omega) (Nat.le_of_ble_eq_true rfl) d_Page_putOut_46 (by omega) (by omega) (fun v' sh13 M14 sz15 hpp => ?_)
            obtain ⟨g1, hz16, hsk17, hfk18, hpg19, hpl20⟩ := hpp
            subst g1
            rw [← hz16] at hpl20
            show Go g ((kc n n1) + kc n1 (n1 + 1)) ((91 * kc n n1) + 91 * kc n1 (n1 + 1)) sh13 M14 sz15 49 [(3, vi (bpl t1)), (0, vr p), (2, vi i)] []
            have hfk18x : fr (fun z => (p ≤ z ∧ z ≤ p + 3) ∨ sz ≤ z) M M14 := fun z hz => by
              have hz1 : ¬ ((p ≤ z ∧ z ≤ p + 3) ∨ sz ≤ z) := hz
              exact (hfk18 z (by show ¬ (z = p ∨ z = p + 3 ∨ sz + ((kc n n1 : Nat) : Int) ≤ z); omega)).trans (hfx z hz)
            have hsk17x : ∀ z, z < sz → sh13 z = sh z := fun z hz => (hsk17 z (by omega)).trans (hsx z hz)
            have hz162 := hz16
            refine go_aload_n X d_Page_putOut_49 rfl rfl ?_
            refine go_get (v := vr (p + 1)) X f_Page_14 hpg19.1 rfl d_Page_putOut_50 (s_vref hpg19.2.2.1 (by omega)) ?_
            refine go_iload_n X d_Page_putOut_53 rfl rfl ?_
            refine go_cV (st2 := []) (r := []) X k_Page_40 (c_Text_indentFrom l D hpg19.2.2.2.2.2.2.2 (i := bpl t1) (by omega)) hpg19.2.2.2.2.2.2.2.1.1 rfl rfl (by omega) (Nat.le_of_ble_eq_true rfl) d_Page_putOut_54 (by omega) (by omega) (fun v' sh' M21 sz' hpp => ?_)
            obtain ⟨e22, e23, e24, tv25, fr26⟩ := hpp
            subst e22
            rw [e23, e24]
            show Go g ((kc n n1) + kc n1 (n1 + 1)) ((91 * kc n n1) + 91 * kc n1 (n1 + 1)) sh13 M21 sz15 57 [(3, vi (bpl t1)), (0, vr p), (2, vi i)] []
            have hpg27 : pg0 sh13 M21 p (n1 + 1) (if 1 ≤ bpl t1 ∧ bpl t1 < t1.length then 32 :: 32 :: t1.drop (bpl t1 + 1).toNat else t1) := ⟨hpg19.1, hpg19.2.1, (congrFun (fr26 p (by omega)) _).trans hpg19.2.2.1, (congrFun (fr26 p (by omega)) _).trans hpg19.2.2.2.1, (congrFun (fr26 p (by omega)) _).trans hpg19.2.2.2.2.1, hpg19.2.2.2.2.2.1, hpg19.2.2.2.2.2.2.1, tv25⟩
            have hpl28 : pgl sh13 M21 (p + 3) lb sz15 (n1 + 1) (kpA n1 A1 (sz + ((kc n n1 : Nat) : Int))) (kpK n1 K1 (t1.take (bpl t1).toNat)) := hpl20.mv (fr26 (p + 3) (by omega)) (fun z z1 z2 => ⟨rfl, fr26 z (by show ¬ (z = p + 1 ∨ z = p + 1 + 1); omega)⟩)
            have fr29 : fr (fun z => (p ≤ z ∧ z ≤ p + 3) ∨ sz ≤ z) M M21 := fun z hz => by
              have hz1 : ¬ ((p ≤ z ∧ z ≤ p + 3) ∨ sz ≤ z) := hz
              exact (fr26 z (by show ¬ (z = p + 1 ∨ z = p + 1 + 1); omega)).trans (hfk18x z hz)
            have hpg30 : pg0 sh13 M21 p (n1 + 1) (32 :: 32 :: t1.drop (bpl t1 + 1).toNat) := by have q := hpg27; rw [if_pos (by omega)] at q; exact q
            refine go_iinc (v := 1) (x := i) (lv' := [(2, vi (i + 1)), (3, vi (bpl t1)), (0, vr p)]) X d_Page_putOut_57 rfl (by decide) rfl ?_
            refine go_goto (tgt := 15) X d_Page_putOut_60 rfl ?_
            have hn9 := (pob_go (i := i) (s := (n1, t1, K1)) (by omega) (by show 30 < t1.length; omega) (by show ¬ bpl t1 < 0; omega)).symm.trans hp
            have hka := kc_add (a := n) (b := n1) (c := n1 + 1) (by omega) (by omega)
            refine go_kn (k' := kc n (n1 + 1)) (n' := 91 * kc n (n1 + 1)) (sz' := sz + ((kc n (n1 + 1) : Nat) : Int)) (by omega) (by omega) (by omega) ?_
            refine go_lv (lv' := [(0, vr p), (2, vi (i + 1))]) X [2, 0] rfl ?_
            have hpl9 := hpl28
            rw [show sz15 = sz + ((kc n (n1 + 1) : Nat) : Int) by omega] at hpl9
            exact ih (i + 1) (n1 + 1) _ _ _ sh13 M21 (by omega) (by omega) hpg30 hpl9 hsk17x fr29 hn9 (by omega)
          · skip
            refine go_vret X d_Page_putOut_43 rfl (by omega) (by omega) ?_
            have hfin : po u (n, t, K) = (n1, t1, K1) := hp.symm.trans (pob_no (i := i) (s := (n1, t1, K1)) (fun q1 q2 => by have q3 : 30 < t1.length := q2; show bpl t1 < 0; omega))
            rw [hfin]
            exact ⟨rfl, rfl, hsx, hfx, hpx, A1, hlx⟩
  have hk0 := kc_self n
  refine go_kn (k' := kc n n) (n' := 91 * kc n n) (sz' := sz + ((kc n n : Nat) : Int)) (by omega) (by omega) (by omega) ?_
  refine go_lv (lv' := [(0, vr p), (2, vi 0)]) X [1, 0] rfl ?_
  have hpl0 := hpl8
  have hpl1 : pgl sh M1 (p + 3) lb (sz + ((kc n n : Nat) : Int)) n A K := by rw [show sz + ((kc n n : Nat) : Int) = sz by omega]; exact hpl0
  exact lp _ 0 n (poa t u) A K sh M1 (by omega) (by omega) hpg7 hpl1 (fun z _ => rfl) fr9 rfl (Nat.lt_succ_self _)
