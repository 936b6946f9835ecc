theorem rdw.mv {sh : s_S} {M M' : s_M} {p s w : Int} {V : Int → Int} {t : List Int} {W : Int → Int} {Y : Int → List Int} {v : List Int} (h : rdw sh M p s w V t W Y v) (hu : ∀ z, p ≤ z → z ≤ p + 22 → M' z = M z) : rdw sh M' p s w V t W Y v := by
  obtain ⟨q1, q2, q3, q4, q5, q6, q7, q8, q9, q10, q11, q12⟩ := h
  exact ⟨q1, q2, q3, q4, (hu p (by omega) (by omega)).trans q5, q6, q7, q8.mv (fun z z1 z2 => ⟨rfl, hu z (by omega) (by omega)⟩), (hu (p + 3) (by omega) (by omega)).trans q9, q10, q11.mv (fun z z1 z2 => ⟨rfl, hu z (by omega) (by omega)⟩), q12.mv (fun z z1 z2 => ⟨rfl, hu z (by omega) (by omega)⟩)⟩
/-- a word, '=', a value: whether, the word, the rest -/
def wv1 (t : List Int) (W : Int → Int) (Y : Int → List Int) (p : Int) (v : List Int) (V WN : Int → Int) : Bool × Int × tvT :=
  if (tkw t (V 6)).1 = 0 then (false, (tkw t (V 6)).1, (v, wdV t V, WN))
  else if (tsk t 61 (wdV t V 6)).1 = true then ((tvf t W Y p (sgV t 61 (wdV t V)) WN).1, (tkw t (V 6)).1, ((tvf t W Y p (sgV t 61 (wdV t V)) WN).2.1, (tvf t W Y p (sgV t 61 (wdV t V)) WN).2.2.1, tvW (tvf t W Y p (sgV t 61 (wdV t V)) WN)))
  else (false, (tkw t (V 6)).1, (v, sgV t 61 (wdV t V), WN))
abbrev rsT : Type := (Int → Int) × (Int → Int) × (Int → List Int) × List Int × (Int → Int)
/-- the numbers, words, texts, value, warnings behind a string's item -/
def tsf (t : List Int) (W : Int → Int) (Y : Int → List Int) (p : Int) (v : List Int) (V WN : Int → Int) : Bool × rsT :=
  if (wv1 t W Y p v V WN).1 = true then
    (if (tsk t 125 ((wv1 t W Y p v V WN).2.2.2.1 6)).1 = true then
      (true, ksV W (wv1 t W Y p v V WN).2.1 (sgV t 125 (wv1 t W Y p v V WN).2.2.2.1), ksW W (sgV t 125 (wv1 t W Y p v V WN).2.2.2.1 5) (wv1 t W Y p v V WN).2.1, ksY W Y (sgV t 125 (wv1 t W Y p v V WN).2.2.2.1 5) (wv1 t W Y p v V WN).2.1 (wv1 t W Y p v V WN).2.2.1, (wv1 t W Y p v V WN).2.2.1, ksN W (sgV t 125 (wv1 t W Y p v V WN).2.2.2.1 5) (wv1 t W Y p v V WN).2.1 (wv1 t W Y p v V WN).2.2.2.2)
    else (false, sgV t 125 (wv1 t W Y p v V WN).2.2.2.1, W, Y, (wv1 t W Y p v V WN).2.2.1, (wv1 t W Y p v V WN).2.2.2.2))
  else (false, (wv1 t W Y p v V WN).2.2.2.1, W, Y, (wv1 t W Y p v V WN).2.2.1, (wv1 t W Y p v V WN).2.2.2.2)
theorem sgV_ok {t : List Int} {V : Int → Int} {c : Int} (h : vok t V) (hc : c ≠ 0) : vok t (sgV t c V) ∧ sgV t c V 5 = V 5 := by
  have hb := tsk_rng (t := t) h.1 hc
  have h1 := h.1
  unfold sgV
  exact ⟨plV_ok h (by omega), by simp [rset]⟩
theorem tv1_ok {t : List Int} {W : Int → Int} {Y : Int → List Int} {p : Int} {s : tvT} (h : vok t s.2.1) (hb : bok s.2.1) (ht : t.length ≤ 320) (hY : ∀ k : Int, 0 ≤ k → k < 8 → (Y k).length ≤ 60) : vok t (tv1 t W Y p s).2.2.2.1 ∧ (tv1 t W Y p s).2.2.2.1 5 = s.2.1 5 ∧ bok (tv1 t W Y p s).2.2.2.1 := by
  obtain ⟨hvk, hvs, -⟩ := tpc_ok (W := W) (p := p) (WN := s.2.2) h ht hY
  have hvb := tpc_b (t := t) (W := W) (Y := Y) (p := p) (WN := s.2.2) hb
  obtain ⟨ha1, ha2, ha3⟩ := apc_ok (u := ptx t Y p (tpc t W Y p s.2.1 s.2.2).2.1) (b := (tpc t W Y p s.2.1 s.2.2).2.1 9) (e := (tpc t W Y p s.2.1 s.2.2).2.1 10) (v := s.1) hvb.1 hvb.2
  have e1 : (tvA t W Y p s).2 6 = (tpc t W Y p s.2.1 s.2.2).2.1 6 := ha1 6 (by decide) (by decide)
  have e2 : (tvA t W Y p s).2 5 = (tpc t W Y p s.2.1 s.2.2).2.1 5 := ha1 5 (by decide) (by decide)
  have hva : vok t (tvA t W Y p s).2 := ⟨by rw [e1]; exact hvk.1, by rw [e2]; exact hvk.2⟩
  obtain ⟨h1, h2⟩ := sgV_ok (c := 35) hva (by decide)
  have h3 : bok (sgV t 35 (tvA t W Y p s).2) := ⟨by simp [sgV, rset]; exact ha2, by simp [sgV, rset]; exact ha3⟩
  unfold tv1
  split
  · exact ⟨h1, h2.trans (e2.trans hvs), h3⟩
  · exact ⟨hvk, hvs, hvb⟩
theorem tvl_ok {t : List Int} {W : Int → Int} {Y : Int → List Int} {p : Int} (ht : t.length ≤ 320) (hY : ∀ k : Int, 0 ≤ k → k < 8 → (Y k).length ≤ 60) : ∀ (m : Nat) (b : Bool) (s : tvT), vok t s.2.1 → bok s.2.1 → vok t (tvl t W Y p m b s).2.2.1 ∧ (tvl t W Y p m b s).2.2.1 5 = s.2.1 5
  | 0, b, s, h, hb => ⟨h, rfl⟩
  | m + 1, b, s, h, hb => by
    have h1 := tv1_ok (W := W) (p := p) h hb ht hY
    unfold tvl
    split
    · split
      · have h2 := tvl_ok (W := W) (p := p) ht hY m (tv1 t W Y p s).2.1 (tv1 t W Y p s).2.2 h1.1 h1.2.2
        exact ⟨h2.1, h2.2.trans h1.2.1⟩
      · exact ⟨h1.1, h1.2.1⟩
    · exact ⟨h, rfl⟩
theorem tvf_ok {t : List Int} {W : Int → Int} {Y : Int → List Int} {p : Int} {V WN : Int → Int} (h : vok t V) (ht : t.length ≤ 320) (hY : ∀ k : Int, 0 ≤ k → k < 8 → (Y k).length ≤ 60) : vok t (tvf t W Y p V WN).2.2.1 ∧ (tvf t W Y p V WN).2.2.1 5 = V 5 := by
  obtain ⟨h1, h2⟩ := h
  have h0 : vok t (rset (rset V 12 0) 13 0) := by
    refine ⟨?_, ?_⟩ <;> simp [rset] <;> omega
  have h9 : bok (rset (rset V 12 0) 13 0) := by
    refine ⟨?_, ?_⟩ <;> simp [rset]
  have := tvl_ok (W := W) (p := p) ht hY ((320 : Int) - 0).toNat true ([], rset (rset V 12 0) 13 0, WN) h0 h9
  exact ⟨this.1, this.2.trans (by simp [rset])⟩
theorem wv1_ok {t : List Int} {W : Int → Int} {Y : Int → List Int} {p : Int} {v : List Int} {V WN : Int → Int} (h : vok t V) (ht : t.length ≤ 320) (hY : ∀ k : Int, 0 ≤ k → k < 8 → (Y k).length ≤ 60) : vok t (wv1 t W Y p v V WN).2.2.2.1 ∧ (wv1 t W Y p v V WN).2.2.2.1 5 = V 5 ∧ rL (wv1 t W Y p v V WN).2.1 := by
  have hw := tkw_rng t (V 6)
  obtain ⟨a1, a2⟩ := wdV_ok h
  obtain ⟨b1, b2⟩ := sgV_ok (c := 61) a1 (by decide)
  unfold wv1
  split
  · exact ⟨a1, a2, hw⟩
  · split
    · have := tvf_ok (W := W) (p := p) (WN := WN) b1 ht hY
      exact ⟨this.1, this.2.trans (b2.trans a2), hw⟩
    · exact ⟨b1, b2.trans a2, hw⟩
set_option maxHeartbeats 4000000 in
set_option maxRecDepth 100000 in
theorem c_Reader_takeString (l : Launch) (D : va_G) {sh : s_S} {M : s_M} {sz p s w : Int} {V : Int → Int} {t : List Int} {W : Int → Int} {Y : Int → List Int} {v : List Int} (h : rdw sh M p s w V t W Y v) (hok : vok t V) {WN : Int → Int} (hWN : M w = WN) : Sp l D y_Reader_takeString prog_8_method_10_code 3 (some .boolean) 6 0 0 [vr p] sh M sz (fun v' sh' M' sz' => v' = some (vi (s_b (tsf t W Y p v V WN).1)) ∧ sh' = sh ∧ sz' = sz ∧ rdw sh M' p s w (tsf t W Y p v V WN).2.1 t (tsf t W Y p v V WN).2.2.1 (tsf t W Y p v V WN).2.2.2.1 (tsf t W Y p v V WN).2.2.2.2.1 ∧ M' w = (tsf t W Y p v V WN).2.2.2.2.2 ∧ fr (fun z => z = p ∨ z = w ∨ z = p + 3 ∨ (p + 5 ≤ z ∧ z ≤ p + 22)) M M') := by
  have hp0 := h.2.2.2.2.2.2.1
  have hch := h.2.2.2.2.2.2.2.1.rng
  have hln := h.2.2.2.2.2.2.2.1.len
  have hY : ∀ k : Int, 0 ≤ k → k < 8 → (Y k).length ≤ 60 := fun k k0 k1 => (h.2.2.2.2.2.2.2.2.2.2.1 k k0 k1).2.len.1
  refine Sp.ofGo (own := "CiteForge$Reader") (nm := "takeString") (by decide) rfl rfl (Nat.le_of_ble_eq_true rfl) (lv := [(0, vr p)]) rfl ?_
  intro g X
  refine go_aload_n X d_Reader_takeString_0 rfl rfl ?_
  refine go_cV (st2 := []) (r := []) X k_Reader_80 (c_Reader_takeWord l D h hok.1) h.1 rfl rfl (by omega) (Nat.le_of_ble_eq_true rfl) d_Reader_takeString_1 (by omega) (by omega) (fun v' sh' M1 sz' hpp => ?_)
  obtain ⟨e1, e2, e3, rd6, fr3⟩ := hpp
  subst e1
  rw [e2, e3]
  clear e2 e3
  show Go g 0 0 sh M1 sz 4 [(0, vr p)] [vl ((tkw t (V 6)).1)]
  have rd2 : rdw sh M1 p s w (wdV t V) t W Y v := rd6
  clear rd6
  have rw5 : M1 w = WN := (fr3 w (by show ¬ (w = p); omega)).trans hWN
  have fr4 : fr (fun z => z = p ∨ z = w ∨ z = p + 3 ∨ (p + 5 ≤ z ∧ z ≤ p + 22)) M M1 := fun z hz => by
    have hz1 : ¬ (z = p ∨ z = w ∨ z = p + 3 ∨ (p + 5 ≤ z ∧ z ≤ p + 22)) := hz
    exact (fr3 z (by show ¬ (z = p); omega))
  have hwr := tkw_rng t (V 6)
  have ow := wdV_ok hok
  have hc9 := s_cmp_rng ((tkw t (V 6)).1) 0
  refine go_lstore_n (lv' := [(1, vl ((tkw t (V 6)).1)), (0, vr p)]) X d_Reader_takeString_4 rfl (by decide) rfl ?_
  refine go_lload_n X d_Reader_takeString_5 rfl rfl ?_
  refine go_lconst (x := 0) X d_Reader_takeString_6 (by decide) ?_
  refine go_lcmp X (by omega) (by omega) d_Reader_takeString_7 ?_
  refine go_if_eq (tgt := 36) X d_Reader_takeString_8 rfl (by omega) (fun hq7 => ?_) (fun hq7 => ?_)
  · skip
    refine go_iconst (v := 0) X d_Reader_takeString_36 ?_
    refine go_iret X d_Reader_takeString_37 rfl ?_ (by omega) (by omega) ?_
    · rfl
    have hW : wv1 t W Y p v V WN = (false, (tkw t (V 6)).1, (v, wdV t V, WN)) := if_pos (s_cmp0 hq7)
    have hT : tsf t W Y p v V WN = (false, (wdV t V, W, Y, v, WN)) := by
      unfold tsf; rw [hW]; exact if_neg (fun q => Bool.noConfusion q)
    rw [hT]
    exact ⟨rfl, rfl, rfl, rd2, rw5, fr4⟩
  · skip
    refine go_aload_n X d_Reader_takeString_11 rfl rfl ?_
    refine go_bipush (v := 61) X d_Reader_takeString_12 (by decide) ?_
    refine go_cV (st2 := []) (r := []) X k_Reader_84 (c_Reader_takeSign l D rd2 ow.1.1 (c := 61) (by decide)) rd2.1 rfl rfl (by omega) (Nat.le_of_ble_eq_true rfl) d_Reader_takeString_14 (by omega) (by omega) (fun v' sh' M8 sz' hpp => ?_)
    obtain ⟨e1, e2, e3, rd13, fr10⟩ := hpp
    subst e1
    rw [e2, e3]
    clear e2 e3
    show Go g 0 0 sh M8 sz 17 [(1, vl ((tkw t (V 6)).1)), (0, vr p)] [vi (s_b (tsk t 61 (wdV t V 6)).1)]
    have rd9 : rdw sh M8 p s w (sgV t 61 (wdV t V)) t W Y v := rd13
    clear rd13
    have rw12 : M8 w = WN := (fr10 w (by show ¬ (w = p); omega)).trans rw5
    have fr11 : fr (fun z => z = p ∨ z = w ∨ z = p + 3 ∨ (p + 5 ≤ z ∧ z ≤ p + 22)) M M8 := fun z hz => by
      have hz1 : ¬ (z = p ∨ z = w ∨ z = p + 3 ∨ (p + 5 ≤ z ∧ z ≤ p + 22)) := hz
      exact (fr10 z (by show ¬ (z = p); omega)).trans (fr4 z hz)
    have os := sgV_ok (c := 61) ow.1 (by decide)
    refine go_ifb_eq (tgt := 36) X d_Reader_takeString_17 rfl (fun hq14 => ?_) (fun hq14 => ?_)
    · skip
      refine go_iconst (v := 0) X d_Reader_takeString_36 ?_
      refine go_iret X d_Reader_takeString_37 rfl ?_ (by omega) (by omega) ?_
      · rfl
      have hW : wv1 t W Y p v V WN = (false, (tkw t (V 6)).1, (v, sgV t 61 (wdV t V), WN)) := (if_neg (sc_ne hq7)).trans (if_neg (by rw [hq14]; decide))
      have hT : tsf t W Y p v V WN = (false, (sgV t 61 (wdV t V), W, Y, v, WN)) := by
        unfold tsf; rw [hW]; exact if_neg (fun q => Bool.noConfusion q)
      rw [hT]
      exact ⟨rfl, rfl, rfl, rd9, rw12, fr11⟩
    · skip
      refine go_aload_n X d_Reader_takeString_20 rfl rfl ?_
      refine go_cV (st2 := []) (r := []) X k_Reader_100 (c_Reader_takeValue l D rd9 os.1.1 os.1.2 rw12) rd9.1 rfl rfl (by omega) (Nat.le_of_ble_eq_true rfl) d_Reader_takeString_21 (by omega) (by omega) (fun v' sh' M15 sz' hpp => ?_)
      obtain ⟨e1, e2, e3, rd20, rw19, fr17⟩ := hpp
      subst e1
      rw [e2, e3]
      clear e2 e3
      show Go g 0 0 sh M15 sz 24 [(1, vl ((tkw t (V 6)).1)), (0, vr p)] [vi (s_b (tvf t W Y p (sgV t 61 (wdV t V)) WN).1)]
      have rd16 : rdw sh M15 p s w ((tvf t W Y p (sgV t 61 (wdV t V)) WN).2.2.1) t W Y ((tvf t W Y p (sgV t 61 (wdV t V)) WN).2.1) := rd20
      clear rd20
      have fr18 : fr (fun z => z = p ∨ z = w ∨ z = p + 3 ∨ (p + 5 ≤ z ∧ z ≤ p + 22)) M M15 := fun z hz => by
        have hz1 : ¬ (z = p ∨ z = w ∨ z = p + 3 ∨ (p + 5 ≤ z ∧ z ≤ p + 22)) := hz
        exact (fr17 z (by show ¬ (z = p ∨ z = w ∨ z = p + 21 ∨ z = p + 22); omega)).trans (fr11 z hz)
      have ov := tvf_ok (W := W) (p := p) (WN := WN) os.1 hln.1 hY
      refine go_ifb_eq (tgt := 36) X d_Reader_takeString_24 rfl (fun hq21 => ?_) (fun hq21 => ?_)
      · skip
        refine go_iconst (v := 0) X d_Reader_takeString_36 ?_
        refine go_iret X d_Reader_takeString_37 rfl ?_ (by omega) (by omega) ?_
        · rfl
        have hW : wv1 t W Y p v V WN = ((tvf t W Y p (sgV t 61 (wdV t V)) WN).1, (tkw t (V 6)).1, ((tvf t W Y p (sgV t 61 (wdV t V)) WN).2.1, (tvf t W Y p (sgV t 61 (wdV t V)) WN).2.2.1, tvW (tvf t W Y p (sgV t 61 (wdV t V)) WN))) := (if_neg (sc_ne hq7)).trans (if_pos hq14)
        have hT : tsf t W Y p v V WN = (false, ((tvf t W Y p (sgV t 61 (wdV t V)) WN).2.2.1, W, Y, (tvf t W Y p (sgV t 61 (wdV t V)) WN).2.1, tvW (tvf t W Y p (sgV t 61 (wdV t V)) WN))) := by
          unfold tsf; rw [hW]; exact if_neg (by show ¬ (tvf t W Y p (sgV t 61 (wdV t V)) WN).1 = true; rw [hq21]; decide)
        rw [hT]
        exact ⟨rfl, rfl, rfl, rd16, rw19, fr18⟩
      · skip
        refine go_aload_n X d_Reader_takeString_27 rfl rfl ?_
        refine go_bipush (v := 125) X d_Reader_takeString_28 (by decide) ?_
        refine go_cV (st2 := []) (r := []) X k_Reader_84 (c_Reader_takeSign l D rd16 ov.1.1 (c := 125) (by decide)) rd16.1 rfl rfl (by omega) (Nat.le_of_ble_eq_true rfl) d_Reader_takeString_30 (by omega) (by omega) (fun v' sh' M22 sz' hpp => ?_)
        obtain ⟨e1, e2, e3, rd27, fr24⟩ := hpp
        subst e1
        rw [e2, e3]
        clear e2 e3
        show Go g 0 0 sh M22 sz 33 [(1, vl ((tkw t (V 6)).1)), (0, vr p)] [vi (s_b (tsk t 125 ((tvf t W Y p (sgV t 61 (wdV t V)) WN).2.2.1 6)).1)]
        have rd23 : rdw sh M22 p s w (sgV t 125 (tvf t W Y p (sgV t 61 (wdV t V)) WN).2.2.1) t W Y ((tvf t W Y p (sgV t 61 (wdV t V)) WN).2.1) := rd27
        clear rd27
        have rw26 : M22 w = tvW (tvf t W Y p (sgV t 61 (wdV t V)) WN) := (fr24 w (by show ¬ (w = p); omega)).trans rw19
        have fr25 : fr (fun z => z = p ∨ z = w ∨ z = p + 3 ∨ (p + 5 ≤ z ∧ z ≤ p + 22)) M M22 := fun z hz => by
          have hz1 : ¬ (z = p ∨ z = w ∨ z = p + 3 ∨ (p + 5 ≤ z ∧ z ≤ p + 22)) := hz
          exact (fr24 z (by show ¬ (z = p); omega)).trans (fr18 z hz)
        have oc := sgV_ok (c := 125) ov.1 (by decide)
        refine go_ifb_ne (tgt := 38) X d_Reader_takeString_33 rfl (fun hq28 => ?_) (fun hq28 => ?_)
        · skip
          refine go_aload_n X d_Reader_takeString_38 rfl rfl ?_
          refine go_lload_n X d_Reader_takeString_39 rfl rfl ?_
          refine go_cV (st2 := []) (r := []) X k_Reader_103 (c_Reader_keepString l D rd23 oc.1.2 hwr rw26) rd23.1 rfl rfl (by omega) (Nat.le_of_ble_eq_true rfl) d_Reader_takeString_40 (by omega) (by omega) (fun v' sh' M29 sz' hpp => ?_)
          obtain ⟨e1, e2, e3, rd34, rw33, fr31⟩ := hpp
          subst e1
          rw [e2, e3]
          clear e2 e3
          show Go g 0 0 sh M29 sz 43 [(1, vl ((tkw t (V 6)).1)), (0, vr p)] []
          have rd30 : rdw sh M29 p s w (ksV W (tkw t (V 6)).1 (sgV t 125 (tvf t W Y p (sgV t 61 (wdV t V)) WN).2.2.1)) t (ksW W (sgV t 125 (tvf t W Y p (sgV t 61 (wdV t V)) WN).2.2.1 5) (tkw t (V 6)).1) (ksY W Y (sgV t 125 (tvf t W Y p (sgV t 61 (wdV t V)) WN).2.2.1 5) (tkw t (V 6)).1 (tvf t W Y p (sgV t 61 (wdV t V)) WN).2.1) ((tvf t W Y p (sgV t 61 (wdV t V)) WN).2.1) := rd34
          clear rd34
          have fr32 : fr (fun z => z = p ∨ z = w ∨ z = p + 3 ∨ (p + 5 ≤ z ∧ z ≤ p + 22)) M M29 := fun z hz => by
            have hz1 : ¬ (z = p ∨ z = w ∨ z = p + 3 ∨ (p + 5 ≤ z ∧ z ≤ p + 22)) := hz
            exact (fr31 z (by show ¬ (z = p ∨ z = w ∨ z = p + 3 ∨ (p + 5 ≤ z ∧ z ≤ p + 20)); omega)).trans (fr25 z hz)
          refine go_iconst (v := 1) X d_Reader_takeString_43 ?_
          refine go_iret X d_Reader_takeString_44 rfl ?_ (by omega) (by omega) ?_
          · rfl
          have hW : wv1 t W Y p v V WN = ((tvf t W Y p (sgV t 61 (wdV t V)) WN).1, (tkw t (V 6)).1, ((tvf t W Y p (sgV t 61 (wdV t V)) WN).2.1, (tvf t W Y p (sgV t 61 (wdV t V)) WN).2.2.1, tvW (tvf t W Y p (sgV t 61 (wdV t V)) WN))) := (if_neg (sc_ne hq7)).trans (if_pos hq14)
          have hT : tsf t W Y p v V WN = (true, (ksV W (tkw t (V 6)).1 (sgV t 125 (tvf t W Y p (sgV t 61 (wdV t V)) WN).2.2.1), ksW W (sgV t 125 (tvf t W Y p (sgV t 61 (wdV t V)) WN).2.2.1 5) (tkw t (V 6)).1, ksY W Y (sgV t 125 (tvf t W Y p (sgV t 61 (wdV t V)) WN).2.2.1 5) (tkw t (V 6)).1 (tvf t W Y p (sgV t 61 (wdV t V)) WN).2.1, (tvf t W Y p (sgV t 61 (wdV t V)) WN).2.1, ksN W (sgV t 125 (tvf t W Y p (sgV t 61 (wdV t V)) WN).2.2.1 5) (tkw t (V 6)).1 (tvW (tvf t W Y p (sgV t 61 (wdV t V)) WN)))) := by
            unfold tsf; rw [hW]; exact (if_pos hq21).trans (if_pos hq28)
          rw [hT]
          exact ⟨rfl, rfl, rfl, rd30, rw33, fr32⟩
        · skip
          refine go_iconst (v := 0) X d_Reader_takeString_36 ?_
          refine go_iret X d_Reader_takeString_37 rfl ?_ (by omega) (by omega) ?_
          · rfl
          have hW : wv1 t W Y p v V WN = ((tvf t W Y p (sgV t 61 (wdV t V)) WN).1, (tkw t (V 6)).1, ((tvf t W Y p (sgV t 61 (wdV t V)) WN).2.1, (tvf t W Y p (sgV t 61 (wdV t V)) WN).2.2.1, tvW (tvf t W Y p (sgV t 61 (wdV t V)) WN))) := (if_neg (sc_ne hq7)).trans (if_pos hq14)
          have hT : tsf t W Y p v V WN = (false, (sgV t 125 (tvf t W Y p (sgV t 61 (wdV t V)) WN).2.2.1, W, Y, (tvf t W Y p (sgV t 61 (wdV t V)) WN).2.1, tvW (tvf t W Y p (sgV t 61 (wdV t V)) WN))) := by
            unfold tsf; rw [hW]; exact (if_pos hq21).trans (if_neg (by show ¬ (tsk t 125 ((tvf t W Y p (sgV t 61 (wdV t V)) WN).2.2.1 6)).1 = true; rw [hq28]; decide))
          rw [hT]
          exact ⟨rfl, rfl, rfl, rd23, rw26, fr25⟩
/-- an entry begun; a field added to it -/
def bge (e : sen) (k t : Int) : sen := ((k, t, 0, 0), e.2.1, e.2.2.1, [])
def adf (e : sen) (w : Int) (u : List Int) : sen := ((e.1.1, e.1.2.1, if aq e.2.1 e.1.2.2.2 w then e.1.2.2.1 else if w = xref then aof u else e.1.2.2.1, if aq e.2.1 e.1.2.2.2 w then e.1.2.2.2 else e.1.2.2.2 + 1), if aq e.2.1 e.1.2.2.2 w then e.2.1 else rset e.2.1 e.1.2.2.2 w, if aq e.2.1 e.1.2.2.2 w then e.2.2.1 else lset e.2.2.1 e.1.2.2.2 (u.take 60), e.2.2.2)
abbrev teT : Type := tvT × sen
/-- one turn of an entry's fields: 0: no comma; 1: closed; 2: a field was added; 3: something is wrong -/
def te1 (t : List Int) (W : Int → Int) (Y : Int → List Int) (p : Int) (s : teT) : Int × teT :=
  if (tsk t 44 (s.1.2.1 6)).1 = true then
    (if (tsk t 125 (sgV t 44 s.1.2.1 6)).1 = true then (1, (s.1.1, sgV t 125 (sgV t 44 s.1.2.1), s.1.2.2), s.2)
    else if (wv1 t W Y p s.1.1 (sgV t 125 (sgV t 44 s.1.2.1)) s.1.2.2).1 = true then (2, (wv1 t W Y p s.1.1 (sgV t 125 (sgV t 44 s.1.2.1)) s.1.2.2).2.2, adf s.2 (wv1 t W Y p s.1.1 (sgV t 125 (sgV t 44 s.1.2.1)) s.1.2.2).2.1 (wv1 t W Y p s.1.1 (sgV t 125 (sgV t 44 s.1.2.1)) s.1.2.2).2.2.1)
    else (3, (wv1 t W Y p s.1.1 (sgV t 125 (sgV t 44 s.1.2.1)) s.1.2.2).2.2, s.2))
  else (0, (s.1.1, sgV t 44 s.1.2.1, s.1.2.2), s.2)
def tel (t : List Int) (W : Int → Int) (Y : Int → List Int) (p : Int) : Nat → Bool → teT → Int × teT
  | 0, b, s => (if b = true then 1 else 0, s)
  | m + 1, b, s => if b = true then (1, s) else if (te1 t W Y p s).1 = 2 then tel t W Y p m false (te1 t W Y p s).2 else te1 t W Y p s
theorem tel_b {t : List Int} {W : Int → Int} {Y : Int → List Int} {p : Int} {s : teT} : ∀ m : Nat, tel t W Y p m true s = (1, s)
  | 0 => rfl
  | _ + 1 => rfl
theorem tel_e {t : List Int} {W : Int → Int} {Y : Int → List Int} {p i : Int} {s : teT} (h : 320 ≤ i) : tel t W Y p ((320 : Int) - i).toNat false s = (0, s) := by
  rw [show ((320 : Int) - i).toNat = 0 by omega]
  rfl
theorem tel_s {t : List Int} {W : Int → Int} {Y : Int → List Int} {p i : Int} {s : teT} (h : i < 320) : tel t W Y p ((320 : Int) - i).toNat false s = if (te1 t W Y p s).1 = 2 then tel t W Y p ((320 : Int) - (i + 1)).toNat false (te1 t W Y p s).2 else te1 t W Y p s := by
  rw [show ((320 : Int) - i).toNat = ((320 : Int) - (i + 1)).toNat + 1 by omega]
  rfl
/-- the fields from the entry's beginning -/
def tef (t : List Int) (W : Int → Int) (Y : Int → List Int) (p : Int) (v : List Int) (V WN : Int → Int) (ty : Int) (e : sen) : Int × teT := tel t W Y p ((320 : Int) - 0).toNat false ((v, wdV t V, WN), bge e (tkw t (V 6)).1 ty)
/-- what closes it: whether, the value, the numbers, the warnings, the entry -/
def tec (t : List Int) (q : Int × teT) : Bool × teT := if q.1 = 3 then (false, q.2) else if q.1 = 1 then (true, q.2) else ((tsk t 125 (q.2.1.2.1 6)).1, (q.2.1.1, sgV t 125 q.2.1.2.1, q.2.1.2.2), q.2.2)
/-- an entry's item: whether, the value, the numbers, the warnings, the shelf -/
def ten (t : List Int) (W : Int → Int) (Y : Int → List Int) (p : Int) (v : List Int) (V WN : Int → Int) (ty : Int) (E : Int → sen) (n : Int) : Bool × tvT × (Int → sen) × Int :=
  if (tkw t (V 6)).1 = 0 then (false, (v, wdV t V, WN), E, n)
  else if (tec t (tef t W Y p v V WN ty (E n))).1 = true then (true, ((tec t (tef t W Y p v V WN ty (E n))).2.1.1, (tec t (tef t W Y p v V WN ty (E n))).2.1.2.1, kdW (eset E n (tec t (tef t W Y p v V WN ty (E n))).2.2) n (tec t (tef t W Y p v V WN ty (E n))).2.1.2.2), eset E n (tec t (tef t W Y p v V WN ty (E n))).2.2, kdn (eset E n (tec t (tef t W Y p v V WN ty (E n))).2.2) n)
  else (false, (tec t (tef t W Y p v V WN ty (E n))).2.1, eset E n (tec t (tef t W Y p v V WN ty (E n))).2.2, n)
set_option maxHeartbeats 4000000 in
set_option maxRecDepth 100000 in
theorem c_Reader_takeEntry (l : Launch) (D : va_G) {sh : s_S} {M : s_M} {sz p s w : Int} {V : Int → Int} {t : List Int} {W : Int → Int} {Y : Int → List Int} {v : List Int} (h : rdw sh M p s w V t W Y v) (hok : vok t V) {WN : Int → Int} (hWN : M w = WN) {n : Int} {E : Int → sen} (hsv : shv sh M s w n E) (hsp : s + 155 ≤ p) {ty : Int} (hty : rL ty) : Sp l D y_Reader_takeEntry prog_8_method_11_code 10 (some .boolean) 6 0 0 [vr p, vl ty] sh M sz (fun v' sh' M' sz' => v' = some (vi (s_b (ten t W Y p v V WN ty E n).1)) ∧ sh' = sh ∧ sz' = sz ∧ rdw sh M' p s w (ten t W Y p v V WN ty E n).2.1.2.1 t W Y (ten t W Y p v V WN ty E n).2.1.1 ∧ M' w = (ten t W Y p v V WN ty E n).2.1.2.2 ∧ shv sh M' s w (ten t W Y p v V WN ty E n).2.2.2 (ten t W Y p v V WN ty E n).2.2.1 ∧ fr (fun z => (s ≤ z ∧ z < s + 155) ∨ z = p ∨ z = w ∨ z = p + 21 ∨ z = p + 22) M M') := by
  have hp0 := h.2.2.2.2.2.2.1
  have hch := h.2.2.2.2.2.2.2.1.rng
  have hln := h.2.2.2.2.2.2.2.1.len
  have hY : ∀ k : Int, 0 ≤ k → k < 8 → (Y k).length ≤ 60 := fun k k0 k1 => (h.2.2.2.2.2.2.2.2.2.2.1 k k0 k1).2.len.1
  have hn8 := hsv.2.2.2.2.2.2.1
  have hws := hsv.2.2.2.2.2.2.2.2.2.1
  refine Sp.ofGo (own := "CiteForge$Reader") (nm := "takeEntry") (by decide) rfl rfl (Nat.le_of_ble_eq_true rfl) (lv := [(0, vr p), (1, vl ty)]) rfl ?_
  intro g X
  refine go_aload_n X d_Reader_takeEntry_0 rfl rfl ?_
  refine go_cV (st2 := []) (r := []) X k_Reader_80 (c_Reader_takeWord l D h hok.1) h.1 rfl rfl (by omega) (Nat.le_of_ble_eq_true rfl) d_Reader_takeEntry_1 (by omega) (by omega) (fun v' sh' M1 sz' hpp => ?_)
  obtain ⟨e1, e2, e3, rd6, fr3⟩ := hpp
  subst e1
  rw [e2, e3]
  clear e2 e3
  show Go g 0 0 sh M1 sz 4 [(0, vr p), (1, vl ty)] [vl ((tkw t (V 6)).1)]
  have rd2 : rdw sh M1 p s w (wdV t V) t W Y v := rd6
  clear rd6
  have rw5 : M1 w = WN := (fr3 w (by show ¬ (w = p); omega)).trans hWN
  have fr4 : fr (fun z => (s + 2 + 17 * n ≤ z ∧ z ≤ s + 2 + 17 * n + 16) ∨ z = p ∨ z = w ∨ z = p + 21 ∨ z = p + 22) M M1 := fun z hz => by
    have hz1 : ¬ ((s + 2 + 17 * n ≤ z ∧ z ≤ s + 2 + 17 * n + 16) ∨ z = p ∨ z = w ∨ z = p + 21 ∨ z = p + 22) := hz
    exact (fr3 z (by show ¬ (z = p); omega))
  have hwr := tkw_rng t (V 6)
  have ow := wdV_ok hok
  have hc9 := s_cmp_rng ((tkw t (V 6)).1) 0
  have hfw := fr3
  refine go_lstore_n (lv' := [(3, vl ((tkw t (V 6)).1)), (0, vr p), (1, vl ty)]) X d_Reader_takeEntry_4 rfl (by decide) rfl ?_
  refine go_lload_n X d_Reader_takeEntry_5 rfl rfl ?_
  refine go_lconst (x := 0) X d_Reader_takeEntry_6 (by decide) ?_
  refine go_lcmp X (by omega) (by omega) d_Reader_takeEntry_7 ?_
  refine go_if_ne (tgt := 13) X d_Reader_takeEntry_8 rfl (by omega) (fun hq7 => ?_) (fun hq7 => ?_)
  · skip
    have hk0 : ¬ (tkw t (V 6)).1 = 0 := sc_ne hq7
    refine go_aload_n X d_Reader_takeEntry_13 rfl rfl ?_
    refine go_get (v := vr s) X f_Reader_9 rd2.1 rfl d_Reader_takeEntry_14 (s_vref (show M1 p 0 = s from (congrFun rd2.2.2.2.2.1 0).trans (rd2.2.2.2.2.2.1.1)) (by omega)) ?_
    have hsv1 : shv sh M1 s w n E := hsv.mv (fun z z1 z2 => ⟨rfl, hfw z (by show ¬ (z = p); omega)⟩) rfl
    refine go_cVf (st2 := [vr (s + 2 + 17 * n)]) (r := []) X k_Reader_107 (c_Shelf_draft l D hsv1) hsv1.1 rfl rfl (by omega) (Nat.le_of_ble_eq_true rfl) d_Reader_takeEntry_17 (by omega) (by omega) rfl ?_
    obtain ⟨-, hen0⟩ := hsv1.ent hn8.1 (by omega)
    refine go_astore (lv' := [(5, vr (s + 2 + 17 * n)), (3, vl ((tkw t (V 6)).1)), (0, vr p), (1, vl ty)]) X d_Reader_takeEntry_20 (by decide) rfl ?_
    refine go_aload X d_Reader_takeEntry_22 rfl ?_
    refine go_lload_n X d_Reader_takeEntry_24 rfl rfl ?_
    refine go_lload_n X d_Reader_takeEntry_25 rfl rfl ?_
    refine go_cV (st2 := []) (r := []) X k_Reader_111 (c_Entry_begin l D hen0 hwr hty) hen0.1 rfl rfl (by omega) (Nat.le_of_ble_eq_true rfl) d_Reader_takeEntry_26 (by omega) (by omega) (fun v' sh' M8 sz' hpp => ?_)
    obtain ⟨e1, e2, e3, en92, fr10⟩ := hpp
    subst e1
    rw [e2, e3]
    clear e2 e3
    show Go g 0 0 sh M8 sz 29 [(5, vr (s + 2 + 17 * n)), (3, vl ((tkw t (V 6)).1)), (0, vr p), (1, vl ty)] []
    have en9 : enx sh M8 (s + 2 + 17 * n) (bge (E n) (tkw t (V 6)).1 ty) := en92
    clear en92
    have rd11 : rdw sh M8 p s w (wdV t V) t W Y v := rd2.mv (fun z z1 z2 => fr10 z (by show ¬ (s + 2 + 17 * n ≤ z ∧ z ≤ s + 2 + 17 * n + 16); omega))
    have rw13 : M8 w = WN := (fr10 w (by show ¬ (s + 2 + 17 * n ≤ w ∧ w ≤ s + 2 + 17 * n + 16); omega)).trans rw5
    have fr12 : fr (fun z => (s + 2 + 17 * n ≤ z ∧ z ≤ s + 2 + 17 * n + 16) ∨ z = p ∨ z = w ∨ z = p + 21 ∨ z = p + 22) M M8 := fun z hz => by
      have hz1 : ¬ ((s + 2 + 17 * n ≤ z ∧ z ≤ s + 2 + 17 * n + 16) ∨ z = p ∨ z = w ∨ z = p + 21 ∨ z = p + 22) := hz
      exact (fr10 z (by show ¬ (s + 2 + 17 * n ≤ z ∧ z ≤ s + 2 + 17 * n + 16); omega)).trans (fr4 z hz)
    refine go_iconst (v := 0) X d_Reader_takeEntry_29 ?_
    refine go_istore (lv' := [(6, vi 0), (5, vr (s + 2 + 17 * n)), (3, vl ((tkw t (V 6)).1)), (0, vr p), (1, vl ty)]) X d_Reader_takeEntry_30 (by decide) rfl ?_
    refine go_iconst (v := 0) X d_Reader_takeEntry_32 ?_
    refine go_istore (lv' := [(7, vi 0), (6, vi 0), (5, vr (s + 2 + 17 * n)), (3, vl ((tkw t (V 6)).1)), (0, vr p), (1, vl ty)]) X d_Reader_takeEntry_33 (by decide) rfl ?_
    have lp : ∀ (fuel : Nat) (i : Int) (b : Bool) (v1 : List Int) (V1 : Int → Int) (WN1 : Int → Int) (e1_ : sen) (Mx : s_M), (0 ≤ i ∧ i ≤ 320) → (rdw sh Mx p s w V1 t W Y v1) → (Mx w = WN1) → (enx sh Mx (s + 2 + 17 * n) e1_) → (vok t V1) → (fr (fun z => (s + 2 + 17 * n ≤ z ∧ z ≤ s + 2 + 17 * n + 16) ∨ z = p ∨ z = w ∨ z = p + 21 ∨ z = p + 22) M Mx) → (tel t W Y p ((320 : Int) - i).toNat b ((v1, V1, WN1), e1_) = tef t W Y p v V WN ty (E n)) → ((320 : Int) - i).toNat < fuel → Go g 0 0 sh Mx sz 35 [(0, vr p), (5, vr (s + 2 + 17 * n)), (6, vi (s_b b)), (7, vi i)] [] := by
      intro fuel
      induction fuel with
      | zero => intro i b v1 V1 WN1 e1_ Mx hi hrd hwn hen hok1 hfr hp hm_lp; exact absurd hm_lp (Nat.not_lt_zero _)
      | succ fuel ih_lp =>
        intro i b v1 V1 WN1 e1_ Mx hi hrd hwn hen hok1 hfr hp hm_lp
        refine go_iload X d_Reader_takeEntry_35 rfl ?_
        refine go_sipush (v := 320) X d_Reader_takeEntry_37 (by decide) ?_
        refine go_icmp_ge (tgt := 118) X d_Reader_takeEntry_40 rfl (by omega) (by omega) (fun hq14 => ?_) (fun hq14 => ?_)
        · skip
          refine go_iload X d_Reader_takeEntry_118 rfl ?_
          refine go_ifb_ne (tgt := 134) X d_Reader_takeEntry_120 rfl (fun hq15 => ?_) (fun hq15 => ?_)
          · skip
            refine go_aload_n X d_Reader_takeEntry_134 rfl rfl ?_
            refine go_get (v := vr s) X f_Reader_9 hrd.1 rfl d_Reader_takeEntry_135 (s_vref (show Mx p 0 = s from (congrFun hrd.2.2.2.2.1 0).trans (hrd.2.2.2.2.2.1.1)) (by omega)) ?_
            have hsv2 : shv sh Mx s w n (eset E n e1_) := hsv.set ⟨hn8.1, by omega⟩ hen (fun z z1 z2 z3 => hfr z (by show ¬ ((s + 2 + 17 * n ≤ z ∧ z ≤ s + 2 + 17 * n + 16) ∨ z = p ∨ z = w ∨ z = p + 21 ∨ z = p + 22); omega))
            refine go_cV (st2 := []) (r := []) X k_Reader_121 (c_Shelf_keepDraft l D hsv2 hwn) hsv2.1 rfl rfl (by omega) (Nat.le_of_ble_eq_true rfl) d_Reader_takeEntry_138 (by omega) (by omega) (fun v' sh' M16 sz' hpp => ?_)
            obtain ⟨e1, e2, e3, sv21, rw20, fr17⟩ := hpp
            subst e1
            rw [e2, e3]
            clear e2 e3
            show Go g 0 0 sh M16 sz 141 [(0, vr p), (5, vr (s + 2 + 17 * n)), (6, vi (s_b b)), (7, vi i)] []
            have rd18 : rdw sh M16 p s w V1 t W Y v1 := hrd.mv (fun z z1 z2 => fr17 z (by show ¬ (z = s ∨ z = w); omega))
            have fr19 : fr (fun z => (s ≤ z ∧ z < s + 155) ∨ z = p ∨ z = w ∨ z = p + 21 ∨ z = p + 22) M M16 := fun z hz => by
              have hz1 : ¬ ((s ≤ z ∧ z < s + 155) ∨ z = p ∨ z = w ∨ z = p + 21 ∨ z = p + 22) := hz
              exact (fr17 z (by show ¬ (z = s ∨ z = w); omega)).trans (hfr z (by show ¬ ((s + 2 + 17 * n ≤ z ∧ z ≤ s + 2 + 17 * n + 16) ∨ z = p ∨ z = w ∨ z = p + 21 ∨ z = p + 22); omega))
            refine go_iconst (v := 1) X d_Reader_takeEntry_141 ?_
            refine go_iret X d_Reader_takeEntry_142 rfl ?_ (by omega) (by omega) ?_
            · rfl
            have hp9 := hp
            have hb9 : b = true := hq15
            rw [hb9, tel_b] at hp9
            have hc : tec t (tef t W Y p v V WN ty (E n)) = (true, ((v1, V1, WN1), e1_)) := by rw [← hp9]; exact (if_neg (by decide : ¬ (1 : Int) = 3)).trans (if_pos rfl)
            have hT : ten t W Y p v V WN ty E n = (true, (v1, V1, kdW (eset E n e1_) n WN1), eset E n e1_, kdn (eset E n e1_) n) := (if_neg hk0).trans (by rw [hc]; exact if_pos rfl)
            rw [hT]
            exact ⟨rfl, rfl, rfl, rd18, rw20, sv21, fr19⟩
          · skip
            refine go_aload_n X d_Reader_takeEntry_123 rfl rfl ?_
            refine go_bipush (v := 125) X d_Reader_takeEntry_124 (by decide) ?_
            refine go_cV (st2 := []) (r := []) X k_Reader_84 (c_Reader_takeSign l D hrd hok1.1 (c := 125) (by decide)) hrd.1 rfl rfl (by omega) (Nat.le_of_ble_eq_true rfl) d_Reader_takeEntry_126 (by omega) (by omega) (fun v' sh' M22 sz' hpp => ?_)
            obtain ⟨e1, e2, e3, rd27, fr24⟩ := hpp
            subst e1
            rw [e2, e3]
            clear e2 e3
            show Go g 0 0 sh M22 sz 129 [(0, vr p), (5, vr (s + 2 + 17 * n)), (6, vi (s_b b)), (7, vi i)] [vi (s_b (tsk t 125 (V1 6)).1)]
            have rd23 : rdw sh M22 p s w (sgV t 125 V1) t W Y v1 := rd27
            clear rd27
            have rw26 : M22 w = WN1 := (fr24 w (by show ¬ (w = p); omega)).trans hwn
            have fr25 : fr (fun z => (s + 2 + 17 * n ≤ z ∧ z ≤ s + 2 + 17 * n + 16) ∨ z = p ∨ z = w ∨ z = p + 21 ∨ z = p + 22) M M22 := fun z hz => by
              have hz1 : ¬ ((s + 2 + 17 * n ≤ z ∧ z ≤ s + 2 + 17 * n + 16) ∨ z = p ∨ z = w ∨ z = p + 21 ∨ z = p + 22) := hz
              exact (fr24 z (by show ¬ (z = p); omega)).trans (hfr z hz)
            have en28 : enx sh M22 (s + 2 + 17 * n) e1_ := hen.mv (fun z z1 z2 => ⟨rfl, fr24 z (by show ¬ (z = p); omega)⟩)
            refine go_ifb_ne (tgt := 134) X d_Reader_takeEntry_129 rfl (fun hq29 => ?_) (fun hq29 => ?_)
            · skip
              refine go_aload_n X d_Reader_takeEntry_134 rfl rfl ?_
              refine go_get (v := vr s) X f_Reader_9 rd23.1 rfl d_Reader_takeEntry_135 (s_vref (show M22 p 0 = s from (congrFun rd23.2.2.2.2.1 0).trans (rd23.2.2.2.2.2.1.1)) (by omega)) ?_
              have hsv2 : shv sh M22 s w n (eset E n e1_) := hsv.set ⟨hn8.1, by omega⟩ en28 (fun z z1 z2 z3 => fr25 z (by show ¬ ((s + 2 + 17 * n ≤ z ∧ z ≤ s + 2 + 17 * n + 16) ∨ z = p ∨ z = w ∨ z = p + 21 ∨ z = p + 22); omega))
              refine go_cV (st2 := []) (r := []) X k_Reader_121 (c_Shelf_keepDraft l D hsv2 rw26) hsv2.1 rfl rfl (by omega) (Nat.le_of_ble_eq_true rfl) d_Reader_takeEntry_138 (by omega) (by omega) (fun v' sh' M30 sz' hpp => ?_)
              obtain ⟨e1, e2, e3, sv35, rw34, fr31⟩ := hpp
              subst e1
              rw [e2, e3]
              clear e2 e3
              show Go g 0 0 sh M30 sz 141 [(0, vr p), (5, vr (s + 2 + 17 * n)), (6, vi (s_b b)), (7, vi i)] []
              have rd32 : rdw sh M30 p s w (sgV t 125 V1) t W Y v1 := rd23.mv (fun z z1 z2 => fr31 z (by show ¬ (z = s ∨ z = w); omega))
              have fr33 : fr (fun z => (s ≤ z ∧ z < s + 155) ∨ z = p ∨ z = w ∨ z = p + 21 ∨ z = p + 22) M M30 := fun z hz => by
                have hz1 : ¬ ((s ≤ z ∧ z < s + 155) ∨ z = p ∨ z = w ∨ z = p + 21 ∨ z = p + 22) := hz
                exact (fr31 z (by show ¬ (z = s ∨ z = w); omega)).trans (fr25 z (by show ¬ ((s + 2 + 17 * n ≤ z ∧ z ≤ s + 2 + 17 * n + 16) ∨ z = p ∨ z = w ∨ z = p + 21 ∨ z = p + 22); omega))
              refine go_iconst (v := 1) X d_Reader_takeEntry_141 ?_
              refine go_iret X d_Reader_takeEntry_142 rfl ?_ (by omega) (by omega) ?_
              · rfl
              have hp9 := hp
              have hb9 : b = false := hq15
              rw [hb9, tel_e (by omega)] at hp9
              have hc : tec t (tef t W Y p v V WN ty (E n)) = (true, ((v1, sgV t 125 V1, WN1), e1_)) := by rw [← hp9]; refine (if_neg (by decide : ¬ (0 : Int) = 3)).trans ((if_neg (by decide : ¬ (0 : Int) = 1)).trans ?_); show ((tsk t 125 (V1 6)).1, _, _) = _; rw [hq29]
              have hT : ten t W Y p v V WN ty E n = (true, (v1, sgV t 125 V1, kdW (eset E n e1_) n WN1), eset E n e1_, kdn (eset E n e1_) n) := (if_neg hk0).trans (by rw [hc]; exact if_pos rfl)
              rw [hT]
              exact ⟨rfl, rfl, rfl, rd32, rw34, sv35, fr33⟩
            · skip
              refine go_iconst (v := 0) X d_Reader_takeEntry_132 ?_
              refine go_iret X d_Reader_takeEntry_133 rfl ?_ (by omega) (by omega) ?_
              · rfl
              have hp9 := hp
              have hb9 : b = false := hq15
              rw [hb9, tel_e (by omega)] at hp9
              have hc : tec t (tef t W Y p v V WN ty (E n)) = (false, ((v1, sgV t 125 V1, WN1), e1_)) := by rw [← hp9]; refine (if_neg (by decide : ¬ (0 : Int) = 3)).trans ((if_neg (by decide : ¬ (0 : Int) = 1)).trans ?_); show ((tsk t 125 (V1 6)).1, _, _) = _; rw [hq29]
              have hT : ten t W Y p v V WN ty E n = (false, (v1, sgV t 125 V1, WN1), eset E n e1_, n) := (if_neg hk0).trans (by rw [hc]; exact if_neg (fun q => Bool.noConfusion q))
              rw [hT]
              have hsv2 : shv sh M22 s w n (eset E n e1_) := hsv.set ⟨hn8.1, by omega⟩ en28 (fun z z1 z2 z3 => fr25 z (by show ¬ ((s + 2 + 17 * n ≤ z ∧ z ≤ s + 2 + 17 * n + 16) ∨ z = p ∨ z = w ∨ z = p + 21 ∨ z = p + 22); omega))
              have hf9 : fr (fun z => (s ≤ z ∧ z < s + 155) ∨ z = p ∨ z = w ∨ z = p + 21 ∨ z = p + 22) M M22 := fun z hz => by
                have hz1 : ¬ ((s ≤ z ∧ z < s + 155) ∨ z = p ∨ z = w ∨ z = p + 21 ∨ z = p + 22) := hz
                exact fr25 z (by show ¬ ((s + 2 + 17 * n ≤ z ∧ z ≤ s + 2 + 17 * n + 16) ∨ z = p ∨ z = w ∨ z = p + 21 ∨ z = p + 22); omega)
              exact ⟨rfl, rfl, rfl, rd23, rw26, hsv2, hf9⟩
        · skip
          refine go_iload X d_Reader_takeEntry_43 rfl ?_
          refine go_ifb_ne (tgt := 118) X d_Reader_takeEntry_45 rfl (fun hq36 => ?_) (fun hq36 => ?_)
          · skip
            rw [hq36]
            show Go g 0 0 sh Mx sz 118 [(0, vr p), (5, vr (s + 2 + 17 * n)), (6, vi 1), (7, vi i)] []
            refine go_iload X d_Reader_takeEntry_118 rfl ?_
            refine go_if_ne (tgt := 134) X d_Reader_takeEntry_120 rfl (by omega) (fun _ => ?_) (fun h9 => absurd h9 (by decide))
            refine go_aload_n X d_Reader_takeEntry_134 rfl rfl ?_
            refine go_get (v := vr s) X f_Reader_9 hrd.1 rfl d_Reader_takeEntry_135 (s_vref (show Mx p 0 = s from (congrFun hrd.2.2.2.2.1 0).trans (hrd.2.2.2.2.2.1.1)) (by omega)) ?_
            have hsv2 : shv sh Mx s w n (eset E n e1_) := hsv.set ⟨hn8.1, by omega⟩ hen (fun z z1 z2 z3 => hfr z (by show ¬ ((s + 2 + 17 * n ≤ z ∧ z ≤ s + 2 + 17 * n + 16) ∨ z = p ∨ z = w ∨ z = p + 21 ∨ z = p + 22); omega))
            refine go_cV (st2 := []) (r := []) X k_Reader_121 (c_Shelf_keepDraft l D hsv2 hwn) hsv2.1 rfl rfl (by omega) (Nat.le_of_ble_eq_true rfl) d_Reader_takeEntry_138 (by omega) (by omega) (fun v' sh' M37 sz' hpp => ?_)
            obtain ⟨e1, e2, e3, sv42, rw41, fr38⟩ := hpp
            subst e1
            rw [e2, e3]
            clear e2 e3
            show Go g 0 0 sh M37 sz 141 [(0, vr p), (5, vr (s + 2 + 17 * n)), (6, vi 1), (7, vi i)] []
            have rd39 : rdw sh M37 p s w V1 t W Y v1 := hrd.mv (fun z z1 z2 => fr38 z (by show ¬ (z = s ∨ z = w); omega))
            have fr40 : fr (fun z => (s ≤ z ∧ z < s + 155) ∨ z = p ∨ z = w ∨ z = p + 21 ∨ z = p + 22) M M37 := fun z hz => by
              have hz1 : ¬ ((s ≤ z ∧ z < s + 155) ∨ z = p ∨ z = w ∨ z = p + 21 ∨ z = p + 22) := hz
              exact (fr38 z (by show ¬ (z = s ∨ z = w); omega)).trans (hfr z (by show ¬ ((s + 2 + 17 * n ≤ z ∧ z ≤ s + 2 + 17 * n + 16) ∨ z = p ∨ z = w ∨ z = p + 21 ∨ z = p + 22); omega))
            refine go_iconst (v := 1) X d_Reader_takeEntry_141 ?_
            refine go_iret X d_Reader_takeEntry_142 rfl ?_ (by omega) (by omega) ?_
            · rfl
            have hp9 := hp
            rw [hq36, tel_b] at hp9
            have hc : tec t (tef t W Y p v V WN ty (E n)) = (true, ((v1, V1, WN1), e1_)) := by rw [← hp9]; exact (if_neg (by decide : ¬ (1 : Int) = 3)).trans (if_pos rfl)
            have hT : ten t W Y p v V WN ty E n = (true, (v1, V1, kdW (eset E n e1_) n WN1), eset E n e1_, kdn (eset E n e1_) n) := (if_neg hk0).trans (by rw [hc]; exact if_pos rfl)
            rw [hT]
            exact ⟨rfl, rfl, rfl, rd39, rw41, sv42, fr40⟩
          · skip
            refine go_aload_n X d_Reader_takeEntry_48 rfl rfl ?_
            refine go_bipush (v := 44) X d_Reader_takeEntry_49 (by decide) ?_
            refine go_cV (st2 := []) (r := []) X k_Reader_84 (c_Reader_takeSign l D hrd hok1.1 (c := 44) (by decide)) hrd.1 rfl rfl (by omega) (Nat.le_of_ble_eq_true rfl) d_Reader_takeEntry_51 (by omega) (by omega) (fun v' sh' M43 sz' hpp => ?_)
            obtain ⟨e1, e2, e3, rd48, fr45⟩ := hpp
            subst e1
            rw [e2, e3]
            clear e2 e3
            show Go g 0 0 sh M43 sz 54 [(0, vr p), (5, vr (s + 2 + 17 * n)), (6, vi (s_b b)), (7, vi i)] [vi (s_b (tsk t 44 (V1 6)).1)]
            have rd44 : rdw sh M43 p s w (sgV t 44 V1) t W Y v1 := rd48
            clear rd48
            have rw47 : M43 w = WN1 := (fr45 w (by show ¬ (w = p); omega)).trans hwn
            have fr46 : fr (fun z => (s + 2 + 17 * n ≤ z ∧ z ≤ s + 2 + 17 * n + 16) ∨ z = p ∨ z = w ∨ z = p + 21 ∨ z = p + 22) M M43 := fun z hz => by
              have hz1 : ¬ ((s + 2 + 17 * n ≤ z ∧ z ≤ s + 2 + 17 * n + 16) ∨ z = p ∨ z = w ∨ z = p + 21 ∨ z = p + 22) := hz
              exact (fr45 z (by show ¬ (z = p); omega)).trans (hfr z hz)
            have en49 : enx sh M43 (s + 2 + 17 * n) e1_ := hen.mv (fun z z1 z2 => ⟨rfl, fr45 z (by show ¬ (z = p); omega)⟩)
            have oa := sgV_ok (c := 44) hok1 (by decide)
            refine go_ifb_eq (tgt := 118) X d_Reader_takeEntry_54 rfl (fun hq50 => ?_) (fun hq50 => ?_)
            · skip
              rw [hq36]
              show Go g 0 0 sh M43 sz 118 [(0, vr p), (5, vr (s + 2 + 17 * n)), (6, vi 0), (7, vi i)] []
              refine go_iload X d_Reader_takeEntry_118 rfl ?_
              refine go_if_ne (tgt := 134) X d_Reader_takeEntry_120 rfl (by omega) (fun h9 => absurd h9 (by decide)) (fun _ => ?_)
              refine go_aload_n X d_Reader_takeEntry_123 rfl rfl ?_
              refine go_bipush (v := 125) X d_Reader_takeEntry_124 (by decide) ?_
              refine go_cV (st2 := []) (r := []) X k_Reader_84 (c_Reader_takeSign l D rd44 oa.1.1 (c := 125) (by decide)) rd44.1 rfl rfl (by omega) (Nat.le_of_ble_eq_true rfl) d_Reader_takeEntry_126 (by omega) (by omega) (fun v' sh' M51 sz' hpp => ?_)
              obtain ⟨e1, e2, e3, rd56, fr53⟩ := hpp
              subst e1
              rw [e2, e3]
              clear e2 e3
              show Go g 0 0 sh M51 sz 129 [(0, vr p), (5, vr (s + 2 + 17 * n)), (6, vi 0), (7, vi i)] [vi (s_b (tsk t 125 (sgV t 44 V1 6)).1)]
              have rd52 : rdw sh M51 p s w (sgV t 125 (sgV t 44 V1)) t W Y v1 := rd56
              clear rd56
              have rw55 : M51 w = WN1 := (fr53 w (by show ¬ (w = p); omega)).trans rw47
              have fr54 : fr (fun z => (s + 2 + 17 * n ≤ z ∧ z ≤ s + 2 + 17 * n + 16) ∨ z = p ∨ z = w ∨ z = p + 21 ∨ z = p + 22) M M51 := fun z hz => by
                have hz1 : ¬ ((s + 2 + 17 * n ≤ z ∧ z ≤ s + 2 + 17 * n + 16) ∨ z = p ∨ z = w ∨ z = p + 21 ∨ z = p + 22) := hz
                exact (fr53 z (by show ¬ (z = p); omega)).trans (fr46 z hz)
              have en57 : enx sh M51 (s + 2 + 17 * n) e1_ := en49.mv (fun z z1 z2 => ⟨rfl, fr53 z (by show ¬ (z = p); omega)⟩)
              refine go_ifb_ne (tgt := 134) X d_Reader_takeEntry_129 rfl (fun hq58 => ?_) (fun hq58 => ?_)
              · skip
                refine go_aload_n X d_Reader_takeEntry_134 rfl rfl ?_
                refine go_get (v := vr s) X f_Reader_9 rd52.1 rfl d_Reader_takeEntry_135 (s_vref (show M51 p 0 = s from (congrFun rd52.2.2.2.2.1 0).trans (rd52.2.2.2.2.2.1.1)) (by omega)) ?_
                have hsv2 : shv sh M51 s w n (eset E n e1_) := hsv.set ⟨hn8.1, by omega⟩ en57 (fun z z1 z2 z3 => fr54 z (by show ¬ ((s + 2 + 17 * n ≤ z ∧ z ≤ s + 2 + 17 * n + 16) ∨ z = p ∨ z = w ∨ z = p + 21 ∨ z = p + 22); omega))
                refine go_cV (st2 := []) (r := []) X k_Reader_121 (c_Shelf_keepDraft l D hsv2 rw55) hsv2.1 rfl rfl (by omega) (Nat.le_of_ble_eq_true rfl) d_Reader_takeEntry_138 (by omega) (by omega) (fun v' sh' M59 sz' hpp => ?_)
                obtain ⟨e1, e2, e3, sv64, rw63, fr60⟩ := hpp
                subst e1
                rw [e2, e3]
                clear e2 e3
                show Go g 0 0 sh M59 sz 141 [(0, vr p), (5, vr (s + 2 + 17 * n)), (6, vi 0), (7, vi i)] []
                have rd61 : rdw sh M59 p s w (sgV t 125 (sgV t 44 V1)) t W Y v1 := rd52.mv (fun z z1 z2 => fr60 z (by show ¬ (z = s ∨ z = w); omega))
                have fr62 : fr (fun z => (s ≤ z ∧ z < s + 155) ∨ z = p ∨ z = w ∨ z = p + 21 ∨ z = p + 22) M M59 := fun z hz => by
                  have hz1 : ¬ ((s ≤ z ∧ z < s + 155) ∨ z = p ∨ z = w ∨ z = p + 21 ∨ z = p + 22) := hz
                  exact (fr60 z (by show ¬ (z = s ∨ z = w); omega)).trans (fr54 z (by show ¬ ((s + 2 + 17 * n ≤ z ∧ z ≤ s + 2 + 17 * n + 16) ∨ z = p ∨ z = w ∨ z = p + 21 ∨ z = p + 22); omega))
                refine go_iconst (v := 1) X d_Reader_takeEntry_141 ?_
                refine go_iret X d_Reader_takeEntry_142 rfl ?_ (by omega) (by omega) ?_
                · rfl
                have hp9 := hp
                rw [hq36, tel_s (by omega)] at hp9
                have ht1 : te1 t W Y p ((v1, V1, WN1), e1_) = (0, (v1, sgV t 44 V1, WN1), e1_) := if_neg (by show ¬ (tsk t 44 (V1 6)).1 = true; rw [hq50]; decide)
                rw [ht1, if_neg (by decide : ¬ (0 : Int) = 2)] at hp9
                have hc : tec t (tef t W Y p v V WN ty (E n)) = (true, ((v1, sgV t 125 (sgV t 44 V1), WN1), e1_)) := by rw [← hp9]; refine (if_neg (by decide : ¬ (0 : Int) = 3)).trans ((if_neg (by decide : ¬ (0 : Int) = 1)).trans ?_); show ((tsk t 125 (sgV t 44 V1 6)).1, _, _) = _; rw [hq58]
                have hT : ten t W Y p v V WN ty E n = (true, (v1, sgV t 125 (sgV t 44 V1), kdW (eset E n e1_) n WN1), eset E n e1_, kdn (eset E n e1_) n) := (if_neg hk0).trans (by rw [hc]; exact if_pos rfl)
                rw [hT]
                exact ⟨rfl, rfl, rfl, rd61, rw63, sv64, fr62⟩
              · skip
                refine go_iconst (v := 0) X d_Reader_takeEntry_132 ?_
                refine go_iret X d_Reader_takeEntry_133 rfl ?_ (by omega) (by omega) ?_
                · rfl
                have hp9 := hp
                rw [hq36, tel_s (by omega)] at hp9
                have ht1 : te1 t W Y p ((v1, V1, WN1), e1_) = (0, (v1, sgV t 44 V1, WN1), e1_) := if_neg (by show ¬ (tsk t 44 (V1 6)).1 = true; rw [hq50]; decide)
                rw [ht1, if_neg (by decide : ¬ (0 : Int) = 2)] at hp9
                have hc : tec t (tef t W Y p v V WN ty (E n)) = (false, ((v1, sgV t 125 (sgV t 44 V1), WN1), e1_)) := by rw [← hp9]; refine (if_neg (by decide : ¬ (0 : Int) = 3)).trans ((if_neg (by decide : ¬ (0 : Int) = 1)).trans ?_); show ((tsk t 125 (sgV t 44 V1 6)).1, _, _) = _; rw [hq58]
                have hT : ten t W Y p v V WN ty E n = (false, (v1, sgV t 125 (sgV t 44 V1), WN1), eset E n e1_, n) := (if_neg hk0).trans (by rw [hc]; exact if_neg (fun q => Bool.noConfusion q))
                rw [hT]
                have hsv2 : shv sh M51 s w n (eset E n e1_) := hsv.set ⟨hn8.1, by omega⟩ en57 (fun z z1 z2 z3 => fr54 z (by show ¬ ((s + 2 + 17 * n ≤ z ∧ z ≤ s + 2 + 17 * n + 16) ∨ z = p ∨ z = w ∨ z = p + 21 ∨ z = p + 22); omega))
                have hf9 : fr (fun z => (s ≤ z ∧ z < s + 155) ∨ z = p ∨ z = w ∨ z = p + 21 ∨ z = p + 22) M M51 := fun z hz => by
                  have hz1 : ¬ ((s ≤ z ∧ z < s + 155) ∨ z = p ∨ z = w ∨ z = p + 21 ∨ z = p + 22) := hz
                  exact fr54 z (by show ¬ ((s + 2 + 17 * n ≤ z ∧ z ≤ s + 2 + 17 * n + 16) ∨ z = p ∨ z = w ∨ z = p + 21 ∨ z = p + 22); omega)
                exact ⟨rfl, rfl, rfl, rd52, rw55, hsv2, hf9⟩
            · skip
              refine go_aload_n X d_Reader_takeEntry_57 rfl rfl ?_
              refine go_bipush (v := 125) X d_Reader_takeEntry_58 (by decide) ?_
              refine go_cV (st2 := []) (r := []) X k_Reader_84 (c_Reader_takeSign l D rd44 oa.1.1 (c := 125) (by decide)) rd44.1 rfl rfl (by omega) (Nat.le_of_ble_eq_true rfl) d_Reader_takeEntry_60 (by omega) (by omega) (fun v' sh' M65 sz' hpp => ?_)
              obtain ⟨e1, e2, e3, rd70, fr67⟩ := hpp
              subst e1
              rw [e2, e3]
              clear e2 e3
              show Go g 0 0 sh M65 sz 63 [(0, vr p), (5, vr (s + 2 + 17 * n)), (6, vi (s_b b)), (7, vi i)] [vi (s_b (tsk t 125 (sgV t 44 V1 6)).1)]
              have rd66 : rdw sh M65 p s w (sgV t 125 (sgV t 44 V1)) t W Y v1 := rd70
              clear rd70
              have rw69 : M65 w = WN1 := (fr67 w (by show ¬ (w = p); omega)).trans rw47
              have fr68 : fr (fun z => (s + 2 + 17 * n ≤ z ∧ z ≤ s + 2 + 17 * n + 16) ∨ z = p ∨ z = w ∨ z = p + 21 ∨ z = p + 22) M M65 := fun z hz => by
                have hz1 : ¬ ((s + 2 + 17 * n ≤ z ∧ z ≤ s + 2 + 17 * n + 16) ∨ z = p ∨ z = w ∨ z = p + 21 ∨ z = p + 22) := hz
                exact (fr67 z (by show ¬ (z = p); omega)).trans (fr46 z hz)
              have en71 : enx sh M65 (s + 2 + 17 * n) e1_ := en49.mv (fun z z1 z2 => ⟨rfl, fr67 z (by show ¬ (z = p); omega)⟩)
              have oc := sgV_ok (c := 125) oa.1 (by decide)
              refine go_istore (lv' := [(6, vi (s_b (tsk t 125 (sgV t 44 V1 6)).1)), (0, vr p), (5, vr (s + 2 + 17 * n)), (7, vi i)]) X d_Reader_takeEntry_63 (by decide) rfl ?_
              refine go_iload X d_Reader_takeEntry_65 rfl ?_
              refine go_ifb_ne (tgt := 112) X d_Reader_takeEntry_67 rfl (fun hq72 => ?_) (fun hq72 => ?_)
              · skip
                have hp9 := hp
                rw [hq36, tel_s (by omega)] at hp9
                have ht1 : te1 t W Y p ((v1, V1, WN1), e1_) = (1, (v1, sgV t 125 (sgV t 44 V1), WN1), e1_) := (if_pos hq50).trans (if_pos hq72)
                rw [ht1, if_neg (by decide : ¬ (1 : Int) = 2)] at hp9
                have hn := (tel_b (t := t) (W := W) (Y := Y) (p := p) (s := ((v1, sgV t 125 (sgV t 44 V1), WN1), e1_)) ((320 : Int) - (i + 1)).toNat).trans hp9
                rw [hq72]
                refine go_iinc (v := 1) (x := i) (lv' := [(7, vi (i + 1)), (6, vi (s_b true)), (0, vr p), (5, vr (s + 2 + 17 * n))]) X d_Reader_takeEntry_112 rfl (by decide) rfl ?_
                refine go_goto (tgt := 35) X d_Reader_takeEntry_115 rfl ?_
                refine go_lv (lv' := [(0, vr p), (5, vr (s + 2 + 17 * n)), (6, vi (s_b true)), (7, vi (i + 1))]) X [2, 3, 1, 0] rfl ?_
                exact ih_lp (i + 1) true v1 (sgV t 125 (sgV t 44 V1)) WN1 e1_ M65 (by omega) rd66 rw69 en71 oc.1 fr68 hn (by omega)
              · skip
                refine go_aload_n X d_Reader_takeEntry_70 rfl rfl ?_
                refine go_cV (st2 := []) (r := []) X k_Reader_80 (c_Reader_takeWord l D rd66 oc.1.1) rd66.1 rfl rfl (by omega) (Nat.le_of_ble_eq_true rfl) d_Reader_takeEntry_71 (by omega) (by omega) (fun v' sh' M73 sz' hpp => ?_)
                obtain ⟨e1, e2, e3, rd78, fr75⟩ := hpp
                subst e1
                rw [e2, e3]
                clear e2 e3
                show Go g 0 0 sh M73 sz 74 [(6, vi (s_b (tsk t 125 (sgV t 44 V1 6)).1)), (0, vr p), (5, vr (s + 2 + 17 * n)), (7, vi i)] [vl ((tkw t (sgV t 125 (sgV t 44 V1) 6)).1)]
                have rd74 : rdw sh M73 p s w (wdV t (sgV t 125 (sgV t 44 V1))) t W Y v1 := rd78
                clear rd78
                have rw77 : M73 w = WN1 := (fr75 w (by show ¬ (w = p); omega)).trans rw69
                have fr76 : fr (fun z => (s + 2 + 17 * n ≤ z ∧ z ≤ s + 2 + 17 * n + 16) ∨ z = p ∨ z = w ∨ z = p + 21 ∨ z = p + 22) M M73 := fun z hz => by
                  have hz1 : ¬ ((s + 2 + 17 * n ≤ z ∧ z ≤ s + 2 + 17 * n + 16) ∨ z = p ∨ z = w ∨ z = p + 21 ∨ z = p + 22) := hz
                  exact (fr75 z (by show ¬ (z = p); omega)).trans (fr68 z hz)
                have en79 : enx sh M73 (s + 2 + 17 * n) e1_ := en71.mv (fun z z1 z2 => ⟨rfl, fr75 z (by show ¬ (z = p); omega)⟩)
                have hwr := tkw_rng t (sgV t 125 (sgV t 44 V1) 6)
                have ow := wdV_ok oc.1
                have hc9 := s_cmp_rng ((tkw t (sgV t 125 (sgV t 44 V1) 6)).1) 0
                refine go_lstore (lv' := [(8, vl ((tkw t (sgV t 125 (sgV t 44 V1) 6)).1)), (6, vi (s_b (tsk t 125 (sgV t 44 V1 6)).1)), (0, vr p), (5, vr (s + 2 + 17 * n)), (7, vi i)]) X d_Reader_takeEntry_74 (by decide) rfl ?_
                refine go_lload X d_Reader_takeEntry_76 rfl ?_
                refine go_lconst (x := 0) X d_Reader_takeEntry_78 (by decide) ?_
                refine go_lcmp X (by omega) (by omega) d_Reader_takeEntry_79 ?_
                refine go_if_eq (tgt := 99) X d_Reader_takeEntry_80 rfl (by omega) (fun hq80 => ?_) (fun hq80 => ?_)
                · skip
                  refine go_iconst (v := 0) X d_Reader_takeEntry_99 ?_
                  refine go_iret X d_Reader_takeEntry_100 rfl ?_ (by omega) (by omega) ?_
                  · rfl
                  have hp9 := hp
                  rw [hq36, tel_s (by omega)] at hp9
                  have hW1 : wv1 t W Y p v1 (sgV t 125 (sgV t 44 V1)) WN1 = (false, (tkw t (sgV t 125 (sgV t 44 V1) 6)).1, (v1, wdV t (sgV t 125 (sgV t 44 V1)), WN1)) := if_pos (s_cmp0 hq80)
                  have ht1 : te1 t W Y p ((v1, V1, WN1), e1_) = (3, ((v1, wdV t (sgV t 125 (sgV t 44 V1)), WN1), e1_)) := by
                    refine (if_pos hq50).trans ((if_neg (by show ¬ (tsk t 125 (sgV t 44 V1 6)).1 = true; rw [hq72]; decide)).trans ?_)
                    show (if (wv1 t W Y p v1 (sgV t 125 (sgV t 44 V1)) WN1).1 = true then (2, (wv1 t W Y p v1 (sgV t 125 (sgV t 44 V1)) WN1).2.2, adf e1_ (wv1 t W Y p v1 (sgV t 125 (sgV t 44 V1)) WN1).2.1 (wv1 t W Y p v1 (sgV t 125 (sgV t 44 V1)) WN1).2.2.1) else (3, (wv1 t W Y p v1 (sgV t 125 (sgV t 44 V1)) WN1).2.2, e1_)) = _
                    rw [hW1]
                    exact if_neg (fun q => Bool.noConfusion q)
                  rw [ht1, if_neg (by decide : ¬ (3 : Int) = 2)] at hp9
                  have hc : tec t (tef t W Y p v V WN ty (E n)) = (false, ((v1, wdV t (sgV t 125 (sgV t 44 V1)), WN1), e1_)) := by rw [← hp9]; exact if_pos rfl
                  have hT : ten t W Y p v V WN ty E n = (false, (v1, wdV t (sgV t 125 (sgV t 44 V1)), WN1), eset E n e1_, n) := (if_neg hk0).trans (by rw [hc]; exact if_neg (fun q => Bool.noConfusion q))
                  rw [hT]
                  have hsv2 : shv sh M73 s w n (eset E n e1_) := hsv.set ⟨hn8.1, by omega⟩ en79 (fun z z1 z2 z3 => fr76 z (by show ¬ ((s + 2 + 17 * n ≤ z ∧ z ≤ s + 2 + 17 * n + 16) ∨ z = p ∨ z = w ∨ z = p + 21 ∨ z = p + 22); omega))
                  have hf9 : fr (fun z => (s ≤ z ∧ z < s + 155) ∨ z = p ∨ z = w ∨ z = p + 21 ∨ z = p + 22) M M73 := fun z hz => by
                    have hz1 : ¬ ((s ≤ z ∧ z < s + 155) ∨ z = p ∨ z = w ∨ z = p + 21 ∨ z = p + 22) := hz
                    exact fr76 z (by show ¬ ((s + 2 + 17 * n ≤ z ∧ z ≤ s + 2 + 17 * n + 16) ∨ z = p ∨ z = w ∨ z = p + 21 ∨ z = p + 22); omega)
                  exact ⟨rfl, rfl, rfl, rd74, rw77, hsv2, hf9⟩
                · skip
                  refine go_aload_n X d_Reader_takeEntry_83 rfl rfl ?_
                  refine go_bipush (v := 61) X d_Reader_takeEntry_84 (by decide) ?_
                  refine go_cV (st2 := []) (r := []) X k_Reader_84 (c_Reader_takeSign l D rd74 ow.1.1 (c := 61) (by decide)) rd74.1 rfl rfl (by omega) (Nat.le_of_ble_eq_true rfl) d_Reader_takeEntry_86 (by omega) (by omega) (fun v' sh' M81 sz' hpp => ?_)
                  obtain ⟨e1, e2, e3, rd86, fr83⟩ := hpp
                  subst e1
                  rw [e2, e3]
                  clear e2 e3
                  show Go g 0 0 sh M81 sz 89 [(8, vl ((tkw t (sgV t 125 (sgV t 44 V1) 6)).1)), (6, vi (s_b (tsk t 125 (sgV t 44 V1 6)).1)), (0, vr p), (5, vr (s + 2 + 17 * n)), (7, vi i)] [vi (s_b (tsk t 61 (wdV t (sgV t 125 (sgV t 44 V1)) 6)).1)]
                  have rd82 : rdw sh M81 p s w (sgV t 61 (wdV t (sgV t 125 (sgV t 44 V1)))) t W Y v1 := rd86
                  clear rd86
                  have rw85 : M81 w = WN1 := (fr83 w (by show ¬ (w = p); omega)).trans rw77
                  have fr84 : fr (fun z => (s + 2 + 17 * n ≤ z ∧ z ≤ s + 2 + 17 * n + 16) ∨ z = p ∨ z = w ∨ z = p + 21 ∨ z = p + 22) M M81 := fun z hz => by
                    have hz1 : ¬ ((s + 2 + 17 * n ≤ z ∧ z ≤ s + 2 + 17 * n + 16) ∨ z = p ∨ z = w ∨ z = p + 21 ∨ z = p + 22) := hz
                    exact (fr83 z (by show ¬ (z = p); omega)).trans (fr76 z hz)
                  have en87 : enx sh M81 (s + 2 + 17 * n) e1_ := en79.mv (fun z z1 z2 => ⟨rfl, fr83 z (by show ¬ (z = p); omega)⟩)
                  have os := sgV_ok (c := 61) ow.1 (by decide)
                  refine go_ifb_eq (tgt := 99) X d_Reader_takeEntry_89 rfl (fun hq88 => ?_) (fun hq88 => ?_)
                  · skip
                    refine go_iconst (v := 0) X d_Reader_takeEntry_99 ?_
                    refine go_iret X d_Reader_takeEntry_100 rfl ?_ (by omega) (by omega) ?_
                    · rfl
                    have hp9 := hp
                    rw [hq36, tel_s (by omega)] at hp9
                    have hW1 : wv1 t W Y p v1 (sgV t 125 (sgV t 44 V1)) WN1 = (false, (tkw t (sgV t 125 (sgV t 44 V1) 6)).1, (v1, sgV t 61 (wdV t (sgV t 125 (sgV t 44 V1))), WN1)) := (if_neg (sc_ne hq80)).trans (if_neg (by rw [hq88]; decide))
                    have ht1 : te1 t W Y p ((v1, V1, WN1), e1_) = (3, ((v1, sgV t 61 (wdV t (sgV t 125 (sgV t 44 V1))), WN1), e1_)) := by
                      refine (if_pos hq50).trans ((if_neg (by show ¬ (tsk t 125 (sgV t 44 V1 6)).1 = true; rw [hq72]; decide)).trans ?_)
                      show (if (wv1 t W Y p v1 (sgV t 125 (sgV t 44 V1)) WN1).1 = true then (2, (wv1 t W Y p v1 (sgV t 125 (sgV t 44 V1)) WN1).2.2, adf e1_ (wv1 t W Y p v1 (sgV t 125 (sgV t 44 V1)) WN1).2.1 (wv1 t W Y p v1 (sgV t 125 (sgV t 44 V1)) WN1).2.2.1) else (3, (wv1 t W Y p v1 (sgV t 125 (sgV t 44 V1)) WN1).2.2, e1_)) = _
                      rw [hW1]
                      exact if_neg (fun q => Bool.noConfusion q)
                    rw [ht1, if_neg (by decide : ¬ (3 : Int) = 2)] at hp9
                    have hc : tec t (tef t W Y p v V WN ty (E n)) = (false, ((v1, sgV t 61 (wdV t (sgV t 125 (sgV t 44 V1))), WN1), e1_)) := by rw [← hp9]; exact if_pos rfl
                    have hT : ten t W Y p v V WN ty E n = (false, (v1, sgV t 61 (wdV t (sgV t 125 (sgV t 44 V1))), WN1), eset E n e1_, n) := (if_neg hk0).trans (by rw [hc]; exact if_neg (fun q => Bool.noConfusion q))
                    rw [hT]
                    have hsv2 : shv sh M81 s w n (eset E n e1_) := hsv.set ⟨hn8.1, by omega⟩ en87 (fun z z1 z2 z3 => fr84 z (by show ¬ ((s + 2 + 17 * n ≤ z ∧ z ≤ s + 2 + 17 * n + 16) ∨ z = p ∨ z = w ∨ z = p + 21 ∨ z = p + 22); omega))
                    have hf9 : fr (fun z => (s ≤ z ∧ z < s + 155) ∨ z = p ∨ z = w ∨ z = p + 21 ∨ z = p + 22) M M81 := fun z hz => by
                      have hz1 : ¬ ((s ≤ z ∧ z < s + 155) ∨ z = p ∨ z = w ∨ z = p + 21 ∨ z = p + 22) := hz
                      exact fr84 z (by show ¬ ((s + 2 + 17 * n ≤ z ∧ z ≤ s + 2 + 17 * n + 16) ∨ z = p ∨ z = w ∨ z = p + 21 ∨ z = p + 22); omega)
                    exact ⟨rfl, rfl, rfl, rd82, rw85, hsv2, hf9⟩
                  · skip
                    refine go_aload_n X d_Reader_takeEntry_92 rfl rfl ?_
                    refine go_cV (st2 := []) (r := []) X k_Reader_100 (c_Reader_takeValue l D rd82 os.1.1 os.1.2 rw85) rd82.1 rfl rfl (by omega) (Nat.le_of_ble_eq_true rfl) d_Reader_takeEntry_93 (by omega) (by omega) (fun v' sh' M89 sz' hpp => ?_)
                    obtain ⟨e1, e2, e3, rd94, rw93, fr91⟩ := hpp
                    subst e1
                    rw [e2, e3]
                    clear e2 e3
                    show Go g 0 0 sh M89 sz 96 [(8, vl ((tkw t (sgV t 125 (sgV t 44 V1) 6)).1)), (6, vi (s_b (tsk t 125 (sgV t 44 V1 6)).1)), (0, vr p), (5, vr (s + 2 + 17 * n)), (7, vi i)] [vi (s_b (tvf t W Y p (sgV t 61 (wdV t (sgV t 125 (sgV t 44 V1)))) WN1).1)]
                    have rd90 : rdw sh M89 p s w ((tvf t W Y p (sgV t 61 (wdV t (sgV t 125 (sgV t 44 V1)))) WN1).2.2.1) t W Y ((tvf t W Y p (sgV t 61 (wdV t (sgV t 125 (sgV t 44 V1)))) WN1).2.1) := rd94
                    clear rd94
                    have fr92 : fr (fun z => (s + 2 + 17 * n ≤ z ∧ z ≤ s + 2 + 17 * n + 16) ∨ z = p ∨ z = w ∨ z = p + 21 ∨ z = p + 22) M M89 := fun z hz => by
                      have hz1 : ¬ ((s + 2 + 17 * n ≤ z ∧ z ≤ s + 2 + 17 * n + 16) ∨ z = p ∨ z = w ∨ z = p + 21 ∨ z = p + 22) := hz
                      exact (fr91 z (by show ¬ (z = p ∨ z = w ∨ z = p + 21 ∨ z = p + 22); omega)).trans (fr84 z hz)
                    have en95 : enx sh M89 (s + 2 + 17 * n) e1_ := en87.mv (fun z z1 z2 => ⟨rfl, fr91 z (by show ¬ (z = p ∨ z = w ∨ z = p + 21 ∨ z = p + 22); omega)⟩)
                    have ov := tvf_ok (W := W) (p := p) (WN := WN1) os.1 hln.1 hY
                    refine go_ifb_ne (tgt := 101) X d_Reader_takeEntry_96 rfl (fun hq96 => ?_) (fun hq96 => ?_)
                    · skip
                      refine go_aload X d_Reader_takeEntry_101 rfl ?_
                      refine go_lload X d_Reader_takeEntry_103 rfl ?_
                      refine go_aload_n X d_Reader_takeEntry_105 rfl rfl ?_
                      refine go_get (v := vr (p + 21)) X f_Reader_39 rd90.1 rfl d_Reader_takeEntry_106 (s_vref (show M89 p 11 = p + 21 from (congrFun rd90.2.2.2.2.1 11).trans (rd90.2.2.2.2.2.1.2.2.2.2.2)) (by omega)) ?_
                      refine go_cV (st2 := []) (r := []) X k_Reader_117 (c_Entry_addField l D en95 hwr rd90.2.2.2.2.2.2.2.2.2.2.2 (by omega)) en95.1 rfl rfl (by omega) (Nat.le_of_ble_eq_true rfl) d_Reader_takeEntry_109 (by omega) (by omega) (fun v' sh' M97 sz' hpp => ?_)
                      obtain ⟨e1, e2, e3, en982, fr99⟩ := hpp
                      subst e1
                      rw [e2, e3]
                      clear e2 e3
                      show Go g 0 0 sh M97 sz 112 [(8, vl ((tkw t (sgV t 125 (sgV t 44 V1) 6)).1)), (6, vi (s_b (tsk t 125 (sgV t 44 V1 6)).1)), (0, vr p), (5, vr (s + 2 + 17 * n)), (7, vi i)] []
                      have en98 : enx sh M97 (s + 2 + 17 * n) (adf e1_ (tkw t (sgV t 125 (sgV t 44 V1) 6)).1 (tvf t W Y p (sgV t 61 (wdV t (sgV t 125 (sgV t 44 V1)))) WN1).2.1) := en982
                      clear en982
                      have rd100 : rdw sh M97 p s w ((tvf t W Y p (sgV t 61 (wdV t (sgV t 125 (sgV t 44 V1)))) WN1).2.2.1) t W Y ((tvf t W Y p (sgV t 61 (wdV t (sgV t 125 (sgV t 44 V1)))) WN1).2.1) := rd90.mv (fun z z1 z2 => fr99 z (by show ¬ (s + 2 + 17 * n ≤ z ∧ z ≤ s + 2 + 17 * n + 16); omega))
                      have rw102 : M97 w = tvW (tvf t W Y p (sgV t 61 (wdV t (sgV t 125 (sgV t 44 V1)))) WN1) := (fr99 w (by show ¬ (s + 2 + 17 * n ≤ w ∧ w ≤ s + 2 + 17 * n + 16); omega)).trans rw93
                      have fr101 : fr (fun z => (s + 2 + 17 * n ≤ z ∧ z ≤ s + 2 + 17 * n + 16) ∨ z = p ∨ z = w ∨ z = p + 21 ∨ z = p + 22) M M97 := fun z hz => by
                        have hz1 : ¬ ((s + 2 + 17 * n ≤ z ∧ z ≤ s + 2 + 17 * n + 16) ∨ z = p ∨ z = w ∨ z = p + 21 ∨ z = p + 22) := hz
                        exact (fr99 z (by show ¬ (s + 2 + 17 * n ≤ z ∧ z ≤ s + 2 + 17 * n + 16); omega)).trans (fr92 z hz)
                      have hp9 := hp
                      rw [hq36, tel_s (by omega)] at hp9
                      have hW1 : wv1 t W Y p v1 (sgV t 125 (sgV t 44 V1)) WN1 = ((tvf t W Y p (sgV t 61 (wdV t (sgV t 125 (sgV t 44 V1)))) WN1).1, (tkw t (sgV t 125 (sgV t 44 V1) 6)).1, ((tvf t W Y p (sgV t 61 (wdV t (sgV t 125 (sgV t 44 V1)))) WN1).2.1, (tvf t W Y p (sgV t 61 (wdV t (sgV t 125 (sgV t 44 V1)))) WN1).2.2.1, tvW (tvf t W Y p (sgV t 61 (wdV t (sgV t 125 (sgV t 44 V1)))) WN1))) := (if_neg (sc_ne hq80)).trans (if_pos hq88)
                      have ht1 : te1 t W Y p ((v1, V1, WN1), e1_) = (2, ((tvf t W Y p (sgV t 61 (wdV t (sgV t 125 (sgV t 44 V1)))) WN1).2.1, (tvf t W Y p (sgV t 61 (wdV t (sgV t 125 (sgV t 44 V1)))) WN1).2.2.1, tvW (tvf t W Y p (sgV t 61 (wdV t (sgV t 125 (sgV t 44 V1)))) WN1)), adf e1_ (tkw t (sgV t 125 (sgV t 44 V1) 6)).1 (tvf t W Y p (sgV t 61 (wdV t (sgV t 125 (sgV t 44 V1)))) WN1).2.1) := by
                        refine (if_pos hq50).trans ((if_neg (by show ¬ (tsk t 125 (sgV t 44 V1 6)).1 = true; rw [hq72]; decide)).trans ?_)
                        show (if (wv1 t W Y p v1 (sgV t 125 (sgV t 44 V1)) WN1).1 = true then (2, (wv1 t W Y p v1 (sgV t 125 (sgV t 44 V1)) WN1).2.2, adf e1_ (wv1 t W Y p v1 (sgV t 125 (sgV t 44 V1)) WN1).2.1 (wv1 t W Y p v1 (sgV t 125 (sgV t 44 V1)) WN1).2.2.1) else (3, (wv1 t W Y p v1 (sgV t 125 (sgV t 44 V1)) WN1).2.2, e1_)) = _
                        rw [hW1]
                        exact if_pos hq96
                      rw [ht1, if_pos rfl] at hp9
                      have hn := hp9
                      rw [hq72]
                      refine go_iinc (v := 1) (x := i) (lv' := [(7, vi (i + 1)), (8, vl ((tkw t (sgV t 125 (sgV t 44 V1) 6)).1)), (6, vi (s_b false)), (0, vr p), (5, vr (s + 2 + 17 * n))]) X d_Reader_takeEntry_112 rfl (by decide) rfl ?_
                      refine go_goto (tgt := 35) X d_Reader_takeEntry_115 rfl ?_
                      refine go_lv (lv' := [(0, vr p), (5, vr (s + 2 + 17 * n)), (6, vi (s_b false)), (7, vi (i + 1))]) X [3, 4, 2, 0] rfl ?_
                      exact ih_lp (i + 1) false ((tvf t W Y p (sgV t 61 (wdV t (sgV t 125 (sgV t 44 V1)))) WN1).2.1) ((tvf t W Y p (sgV t 61 (wdV t (sgV t 125 (sgV t 44 V1)))) WN1).2.2.1) (tvW (tvf t W Y p (sgV t 61 (wdV t (sgV t 125 (sgV t 44 V1)))) WN1)) (adf e1_ (tkw t (sgV t 125 (sgV t 44 V1) 6)).1 (tvf t W Y p (sgV t 61 (wdV t (sgV t 125 (sgV t 44 V1)))) WN1).2.1) M97 (by omega) rd100 rw102 en98 ov.1 fr101 hn (by omega)
                    · skip
                      refine go_iconst (v := 0) X d_Reader_takeEntry_99 ?_
                      refine go_iret X d_Reader_takeEntry_100 rfl ?_ (by omega) (by omega) ?_
                      · rfl
                      have hp9 := hp
                      rw [hq36, tel_s (by omega)] at hp9
                      have hW1 : wv1 t W Y p v1 (sgV t 125 (sgV t 44 V1)) WN1 = ((tvf t W Y p (sgV t 61 (wdV t (sgV t 125 (sgV t 44 V1)))) WN1).1, (tkw t (sgV t 125 (sgV t 44 V1) 6)).1, ((tvf t W Y p (sgV t 61 (wdV t (sgV t 125 (sgV t 44 V1)))) WN1).2.1, (tvf t W Y p (sgV t 61 (wdV t (sgV t 125 (sgV t 44 V1)))) WN1).2.2.1, tvW (tvf t W Y p (sgV t 61 (wdV t (sgV t 125 (sgV t 44 V1)))) WN1))) := (if_neg (sc_ne hq80)).trans (if_pos hq88)
                      have ht1 : te1 t W Y p ((v1, V1, WN1), e1_) = (3, (((tvf t W Y p (sgV t 61 (wdV t (sgV t 125 (sgV t 44 V1)))) WN1).2.1, (tvf t W Y p (sgV t 61 (wdV t (sgV t 125 (sgV t 44 V1)))) WN1).2.2.1, tvW (tvf t W Y p (sgV t 61 (wdV t (sgV t 125 (sgV t 44 V1)))) WN1)), e1_)) := by
                        refine (if_pos hq50).trans ((if_neg (by show ¬ (tsk t 125 (sgV t 44 V1 6)).1 = true; rw [hq72]; decide)).trans ?_)
                        show (if (wv1 t W Y p v1 (sgV t 125 (sgV t 44 V1)) WN1).1 = true then (2, (wv1 t W Y p v1 (sgV t 125 (sgV t 44 V1)) WN1).2.2, adf e1_ (wv1 t W Y p v1 (sgV t 125 (sgV t 44 V1)) WN1).2.1 (wv1 t W Y p v1 (sgV t 125 (sgV t 44 V1)) WN1).2.2.1) else (3, (wv1 t W Y p v1 (sgV t 125 (sgV t 44 V1)) WN1).2.2, e1_)) = _
                        rw [hW1]
                        exact if_neg (by show ¬ (tvf t W Y p (sgV t 61 (wdV t (sgV t 125 (sgV t 44 V1)))) WN1).1 = true; rw [hq96]; decide)
                      rw [ht1, if_neg (by decide : ¬ (3 : Int) = 2)] at hp9
                      have hc : tec t (tef t W Y p v V WN ty (E n)) = (false, (((tvf t W Y p (sgV t 61 (wdV t (sgV t 125 (sgV t 44 V1)))) WN1).2.1, (tvf t W Y p (sgV t 61 (wdV t (sgV t 125 (sgV t 44 V1)))) WN1).2.2.1, tvW (tvf t W Y p (sgV t 61 (wdV t (sgV t 125 (sgV t 44 V1)))) WN1)), e1_)) := by rw [← hp9]; exact if_pos rfl
                      have hT : ten t W Y p v V WN ty E n = (false, ((tvf t W Y p (sgV t 61 (wdV t (sgV t 125 (sgV t 44 V1)))) WN1).2.1, (tvf t W Y p (sgV t 61 (wdV t (sgV t 125 (sgV t 44 V1)))) WN1).2.2.1, tvW (tvf t W Y p (sgV t 61 (wdV t (sgV t 125 (sgV t 44 V1)))) WN1)), eset E n e1_, n) := (if_neg hk0).trans (by rw [hc]; exact if_neg (fun q => Bool.noConfusion q))
                      rw [hT]
                      have hsv2 : shv sh M89 s w n (eset E n e1_) := hsv.set ⟨hn8.1, by omega⟩ en95 (fun z z1 z2 z3 => fr92 z (by show ¬ ((s + 2 + 17 * n ≤ z ∧ z ≤ s + 2 + 17 * n + 16) ∨ z = p ∨ z = w ∨ z = p + 21 ∨ z = p + 22); omega))
                      have hf9 : fr (fun z => (s ≤ z ∧ z < s + 155) ∨ z = p ∨ z = w ∨ z = p + 21 ∨ z = p + 22) M M89 := fun z hz => by
                        have hz1 : ¬ ((s ≤ z ∧ z < s + 155) ∨ z = p ∨ z = w ∨ z = p + 21 ∨ z = p + 22) := hz
                        exact fr92 z (by show ¬ ((s + 2 + 17 * n ≤ z ∧ z ≤ s + 2 + 17 * n + 16) ∨ z = p ∨ z = w ∨ z = p + 21 ∨ z = p + 22); omega)
                      exact ⟨rfl, rfl, rfl, rd90, rw93, hsv2, hf9⟩
    refine go_lv (lv' := [(0, vr p), (5, vr (s + 2 + 17 * n)), (6, vi 0), (7, vi 0)]) X [4, 2, 1, 0] rfl ?_
    exact lp _ 0 false v (wdV t V) WN (bge (E n) (tkw t (V 6)).1 ty) M8 (by omega) rd11 rw13 en9 ow.1 fr12 rfl (Nat.lt_succ_self _)
  · skip
    refine go_iconst (v := 0) X d_Reader_takeEntry_11 ?_
    refine go_iret X d_Reader_takeEntry_12 rfl ?_ (by omega) (by omega) ?_
    · rfl
    have hT : ten t W Y p v V WN ty E n = (false, (v, wdV t V, WN), E, n) := if_pos (s_cmp0 hq7)
    rw [hT]
    have hsv1 : shv sh M1 s w n E := hsv.mv (fun z z1 z2 => ⟨rfl, hfw z (by show ¬ (z = p); omega)⟩) rfl
    have hf9 : fr (fun z => (s ≤ z ∧ z < s + 155) ∨ z = p ∨ z = w ∨ z = p + 21 ∨ z = p + 22) M M1 := fun z hz => by
      have hz1 : ¬ ((s ≤ z ∧ z < s + 155) ∨ z = p ∨ z = w ∨ z = p + 21 ∨ z = p + 22) := hz
      exact hfw z (by show ¬ (z = p); omega)
    exact ⟨rfl, rfl, rfl, rd2, rw5, hsv1, hf9⟩
/-- an item: whether, the numbers, words, texts, value, warnings, the shelf -/
abbrev tiT : Type := Bool × rsT × (Int → sen) × Int
def tif (t : List Int) (W : Int → Int) (Y : Int → List Int) (p : Int) (v : List Int) (V WN : Int → Int) (E : Int → sen) (n : Int) : tiT :=
  if (tkw t (V 6)).1 = 0 then (false, (wdV t V, W, Y, v, WN), E, n)
  else if (tsk t 123 (wdV t V 6)).1 = true then
    (if (tkw t (V 6)).1 = 32772479205076835 then (true, (sgV t 123 (wdV t V), W, Y, v, WN), E, n)
    else if (tkw t (V 6)).1 = 113723913172083 then ((tsf t W Y p v (sgV t 123 (wdV t V)) WN).1, (tsf t W Y p v (sgV t 123 (wdV t V)) WN).2, E, n)
    else ((ten t W Y p v (sgV t 123 (wdV t V)) WN (tkw t (V 6)).1 E n).1, ((ten t W Y p v (sgV t 123 (wdV t V)) WN (tkw t (V 6)).1 E n).2.1.2.1, W, Y, (ten t W Y p v (sgV t 123 (wdV t V)) WN (tkw t (V 6)).1 E n).2.1.1, (ten t W Y p v (sgV t 123 (wdV t V)) WN (tkw t (V 6)).1 E n).2.1.2.2), (ten t W Y p v (sgV t 123 (wdV t V)) WN (tkw t (V 6)).1 E n).2.2.1, (ten t W Y p v (sgV t 123 (wdV t V)) WN (tkw t (V 6)).1 E n).2.2.2))
  else (false, (sgV t 123 (wdV t V), W, Y, v, WN), E, n)
set_option maxHeartbeats 4000000 in
set_option maxRecDepth 100000 in
theorem c_Reader_takeItem (l : Launch) (D : va_G) {sh : s_S} {M : s_M} {sz p s w : Int} {V : Int → Int} {t : List Int} {W : Int → Int} {Y : Int → List Int} {v : List Int} (h : rdw sh M p s w V t W Y v) (hok : vok t V) {WN : Int → Int} (hWN : M w = WN) {n : Int} {E : Int → sen} (hsv : shv sh M s w n E) (hsp : s + 155 ≤ p) : Sp l D y_Reader_takeItem prog_8_method_9_code 3 (some .boolean) 7 0 0 [vr p] sh M sz (fun v' sh' M' sz' => v' = some (vi (s_b (tif t W Y p v V WN E n).1)) ∧ sh' = sh ∧ sz' = sz ∧ rdw sh M' p s w (tif t W Y p v V WN E n).2.1.1 t (tif t W Y p v V WN E n).2.1.2.1 (tif t W Y p v V WN E n).2.1.2.2.1 (tif t W Y p v V WN E n).2.1.2.2.2.1 ∧ M' w = (tif t W Y p v V WN E n).2.1.2.2.2.2 ∧ shv sh M' s w (tif t W Y p v V WN E n).2.2.2 (tif t W Y p v V WN E n).2.2.1 ∧ fr (fun z => (s ≤ z ∧ z < s + 155) ∨ z = w ∨ (p ≤ z ∧ z ≤ p + 22)) M M') := by
  have hp0 := h.2.2.2.2.2.2.1
  have hch := h.2.2.2.2.2.2.2.1.rng
  have hln := h.2.2.2.2.2.2.2.1.len
  have hY : ∀ k : Int, 0 ≤ k → k < 8 → (Y k).length ≤ 60 := fun k k0 k1 => (h.2.2.2.2.2.2.2.2.2.2.1 k k0 k1).2.len.1
  have hn8 := hsv.2.2.2.2.2.2.1
  have hws := hsv.2.2.2.2.2.2.2.2.2.1
  refine Sp.ofGo (own := "CiteForge$Reader") (nm := "takeItem") (by decide) rfl rfl (Nat.le_of_ble_eq_true rfl) (lv := [(0, vr p)]) rfl ?_
  intro g X
  refine go_aload_n X d_Reader_takeItem_0 rfl rfl ?_
  refine go_cV (st2 := []) (r := []) X k_Reader_80 (c_Reader_takeWord l D h hok.1) h.1 rfl rfl (by omega) (Nat.le_of_ble_eq_true rfl) d_Reader_takeItem_1 (by omega) (by omega) (fun v' sh' M1 sz' hpp => ?_)
  obtain ⟨e1, e2, e3, rd6, fr3⟩ := hpp
  subst e1
  rw [e2, e3]
  clear e2 e3
  show Go g 0 0 sh M1 sz 4 [(0, vr p)] [vl ((tkw t (V 6)).1)]
  have rd2 : rdw sh M1 p s w (wdV t V) t W Y v := rd6
  clear rd6
  have rw5 : M1 w = WN := (fr3 w (by show ¬ (w = p); omega)).trans hWN
  have fr4 : fr (fun z => z = w ∨ (p ≤ z ∧ z ≤ p + 22)) M M1 := fun z hz => by
    have hz1 : ¬ (z = w ∨ (p ≤ z ∧ z ≤ p + 22)) := hz
    exact (fr3 z (by show ¬ (z = p); omega))
  have hwr := tkw_rng t (V 6)
  have ow := wdV_ok hok
  have hc9 := s_cmp_rng ((tkw t (V 6)).1) 0
  refine go_lstore_n (lv' := [(1, vl ((tkw t (V 6)).1)), (0, vr p)]) X d_Reader_takeItem_4 rfl (by decide) rfl ?_
  refine go_lload_n X d_Reader_takeItem_5 rfl rfl ?_
  refine go_lconst (x := 0) X d_Reader_takeItem_6 (by decide) ?_
  refine go_lcmp X (by omega) (by omega) d_Reader_takeItem_7 ?_
  refine go_if_eq (tgt := 20) X d_Reader_takeItem_8 rfl (by omega) (fun hq7 => ?_) (fun hq7 => ?_)
  · skip
    refine go_iconst (v := 0) X d_Reader_takeItem_20 ?_
    refine go_iret X d_Reader_takeItem_21 rfl ?_ (by omega) (by omega) ?_
    · rfl
    have hT : tif t W Y p v V WN E n = (false, (wdV t V, W, Y, v, WN), E, n) := if_pos (s_cmp0 hq7)
    rw [hT]
    have hsv9 : shv sh M1 s w n E := hsv.mv (fun z z1 z2 => ⟨rfl, fr4 z (by show ¬ (z = w ∨ (p ≤ z ∧ z ≤ p + 22)); omega)⟩) rfl
    have hf9 : fr (fun z => (s ≤ z ∧ z < s + 155) ∨ z = w ∨ (p ≤ z ∧ z ≤ p + 22)) M M1 := fun z hz => by
      have hz1 : ¬ ((s ≤ z ∧ z < s + 155) ∨ z = w ∨ (p ≤ z ∧ z ≤ p + 22)) := hz
      exact fr4 z (by show ¬ (z = w ∨ (p ≤ z ∧ z ≤ p + 22)); omega)
    exact ⟨rfl, rfl, rfl, rd2, rw5, hsv9, hf9⟩
  · skip
    refine go_aload_n X d_Reader_takeItem_11 rfl rfl ?_
    refine go_bipush (v := 123) X d_Reader_takeItem_12 (by decide) ?_
    refine go_cV (st2 := []) (r := []) X k_Reader_84 (c_Reader_takeSign l D rd2 ow.1.1 (c := 123) (by decide)) rd2.1 rfl rfl (by omega) (Nat.le_of_ble_eq_true rfl) d_Reader_takeItem_14 (by omega) (by omega) (fun v' sh' M8 sz' hpp => ?_)
    obtain ⟨e1, e2, e3, rd13, fr10⟩ := hpp
    subst e1
    rw [e2, e3]
    clear e2 e3
    show Go g 0 0 sh M8 sz 17 [(1, vl ((tkw t (V 6)).1)), (0, vr p)] [vi (s_b (tsk t 123 (wdV t V 6)).1)]
    have rd9 : rdw sh M8 p s w (sgV t 123 (wdV t V)) t W Y v := rd13
    clear rd13
    have rw12 : M8 w = WN := (fr10 w (by show ¬ (w = p); omega)).trans rw5
    have fr11 : fr (fun z => z = w ∨ (p ≤ z ∧ z ≤ p + 22)) M M8 := fun z hz => by
      have hz1 : ¬ (z = w ∨ (p ≤ z ∧ z ≤ p + 22)) := hz
      exact (fr10 z (by show ¬ (z = p); omega)).trans (fr4 z hz)
    have oi := sgV_ok (c := 123) ow.1 (by decide)
    refine go_ifb_ne (tgt := 22) X d_Reader_takeItem_17 rfl (fun hq14 => ?_) (fun hq14 => ?_)
    · skip
      refine go_lload_n X d_Reader_takeItem_22 rfl rfl ?_
      refine go_ldc2 (x := 32772479205076835) X w_kl_Reader_88 (by decide) d_Reader_takeItem_23 ?_
      refine go_lcmp X (by omega) (by omega) d_Reader_takeItem_26 ?_
      have hc0 := s_cmp_rng ((tkw t (V 6)).1) 32772479205076835
      refine go_if_ne (tgt := 32) X d_Reader_takeItem_27 rfl (by omega) (fun hq15 => ?_) (fun hq15 => ?_)
      · skip
        refine go_lload_n X d_Reader_takeItem_32 rfl rfl ?_
        refine go_ldc2 (x := 113723913172083) X w_kl_Reader_90 (by decide) d_Reader_takeItem_33 ?_
        refine go_lcmp X (by omega) (by omega) d_Reader_takeItem_36 ?_
        have hc4 := s_cmp_rng ((tkw t (V 6)).1) 113723913172083
        refine go_if_ne (tgt := 47) X d_Reader_takeItem_37 rfl (by omega) (fun hq16 => ?_) (fun hq16 => ?_)
        · skip
          refine go_aload_n X d_Reader_takeItem_47 rfl rfl ?_
          refine go_lload_n X d_Reader_takeItem_48 rfl rfl ?_
          have hsv1 : shv sh M8 s w n E := hsv.mv (fun z z1 z2 => ⟨rfl, fr11 z (by show ¬ (z = w ∨ (p ≤ z ∧ z ≤ p + 22)); omega)⟩) rfl
          refine go_cV (st2 := []) (r := []) X k_Reader_96 (c_Reader_takeEntry l D rd9 oi.1 rw12 hsv1 hsp hwr) rd9.1 rfl rfl (by omega) (Nat.le_of_ble_eq_true rfl) d_Reader_takeItem_49 (by omega) (by omega) (fun v' sh' M17 sz' hpp => ?_)
          obtain ⟨e1, e2, e3, rd19, rw21, sv22, fr18⟩ := hpp
          subst e1
          rw [e2, e3]
          clear e2 e3
          show Go g 0 0 sh M17 sz 52 [(1, vl ((tkw t (V 6)).1)), (0, vr p)] [vi (s_b (ten t W Y p v (sgV t 123 (wdV t V)) WN (tkw t (V 6)).1 E n).1)]
          have fr20 : fr (fun z => (s ≤ z ∧ z < s + 155) ∨ z = w ∨ (p ≤ z ∧ z ≤ p + 22)) M M17 := fun z hz => by
            have hz1 : ¬ ((s ≤ z ∧ z < s + 155) ∨ z = w ∨ (p ≤ z ∧ z ≤ p + 22)) := hz
            exact (fr18 z (by show ¬ ((s ≤ z ∧ z < s + 155) ∨ z = p ∨ z = w ∨ z = p + 21 ∨ z = p + 22); omega)).trans (fr11 z (by show ¬ (z = w ∨ (p ≤ z ∧ z ≤ p + 22)); omega))
          refine go_iret X d_Reader_takeItem_52 rfl ?_ (by omega) (by omega) ?_
          · exact s_b_nar _
          have hT : tif t W Y p v V WN E n = ((ten t W Y p v (sgV t 123 (wdV t V)) WN (tkw t (V 6)).1 E n).1, ((ten t W Y p v (sgV t 123 (wdV t V)) WN (tkw t (V 6)).1 E n).2.1.2.1, W, Y, (ten t W Y p v (sgV t 123 (wdV t V)) WN (tkw t (V 6)).1 E n).2.1.1, (ten t W Y p v (sgV t 123 (wdV t V)) WN (tkw t (V 6)).1 E n).2.1.2.2), (ten t W Y p v (sgV t 123 (wdV t V)) WN (tkw t (V 6)).1 E n).2.2.1, (ten t W Y p v (sgV t 123 (wdV t V)) WN (tkw t (V 6)).1 E n).2.2.2) := (if_neg (sc_ne hq7)).trans ((if_pos hq14).trans ((if_neg (sc_ne hq15)).trans (if_neg (sc_ne hq16))))
          rw [hT]
          exact ⟨rfl, rfl, rfl, rd19, rw21, sv22, fr20⟩
        · skip
          refine go_aload_n X d_Reader_takeItem_40 rfl rfl ?_
          refine go_cV (st2 := []) (r := []) X k_Reader_92 (c_Reader_takeString l D rd9 oi.1 rw12) rd9.1 rfl rfl (by omega) (Nat.le_of_ble_eq_true rfl) d_Reader_takeItem_41 (by omega) (by omega) (fun v' sh' M23 sz' hpp => ?_)
          obtain ⟨e1, e2, e3, rd28, rw27, fr25⟩ := hpp
          subst e1
          rw [e2, e3]
          clear e2 e3
          show Go g 0 0 sh M23 sz 44 [(1, vl ((tkw t (V 6)).1)), (0, vr p)] [vi (s_b (tsf t W Y p v (sgV t 123 (wdV t V)) WN).1)]
          have rd24 : rdw sh M23 p s w ((tsf t W Y p v (sgV t 123 (wdV t V)) WN).2.1) t ((tsf t W Y p v (sgV t 123 (wdV t V)) WN).2.2.1) ((tsf t W Y p v (sgV t 123 (wdV t V)) WN).2.2.2.1) ((tsf t W Y p v (sgV t 123 (wdV t V)) WN).2.2.2.2.1) := rd28
          clear rd28
          have fr26 : fr (fun z => z = w ∨ (p ≤ z ∧ z ≤ p + 22)) M M23 := fun z hz => by
            have hz1 : ¬ (z = w ∨ (p ≤ z ∧ z ≤ p + 22)) := hz
            exact (fr25 z (by show ¬ (z = p ∨ z = w ∨ z = p + 3 ∨ (p + 5 ≤ z ∧ z ≤ p + 22)); omega)).trans (fr11 z hz)
          refine go_goto (tgt := 52) X d_Reader_takeItem_44 rfl ?_
          refine go_iret X d_Reader_takeItem_52 rfl ?_ (by omega) (by omega) ?_
          · exact s_b_nar _
          have hT : tif t W Y p v V WN E n = ((tsf t W Y p v (sgV t 123 (wdV t V)) WN).1, ((tsf t W Y p v (sgV t 123 (wdV t V)) WN).2.1, (tsf t W Y p v (sgV t 123 (wdV t V)) WN).2.2.1, (tsf t W Y p v (sgV t 123 (wdV t V)) WN).2.2.2.1, (tsf t W Y p v (sgV t 123 (wdV t V)) WN).2.2.2.2.1, (tsf t W Y p v (sgV t 123 (wdV t V)) WN).2.2.2.2.2), E, n) := (if_neg (sc_ne hq7)).trans ((if_pos hq14).trans ((if_neg (sc_ne hq15)).trans (if_pos (s_cmp0 hq16))))
          rw [hT]
          have hsv9 : shv sh M23 s w n E := hsv.mv (fun z z1 z2 => ⟨rfl, fr26 z (by show ¬ (z = w ∨ (p ≤ z ∧ z ≤ p + 22)); omega)⟩) rfl
          have hf9 : fr (fun z => (s ≤ z ∧ z < s + 155) ∨ z = w ∨ (p ≤ z ∧ z ≤ p + 22)) M M23 := fun z hz => by
            have hz1 : ¬ ((s ≤ z ∧ z < s + 155) ∨ z = w ∨ (p ≤ z ∧ z ≤ p + 22)) := hz
            exact fr26 z (by show ¬ (z = w ∨ (p ≤ z ∧ z ≤ p + 22)); omega)
          exact ⟨rfl, rfl, rfl, rd24, rw27, hsv9, hf9⟩
      · skip
        refine go_iconst (v := 1) X d_Reader_takeItem_30 ?_
        refine go_iret X d_Reader_takeItem_31 rfl ?_ (by omega) (by omega) ?_
        · rfl
        have hT : tif t W Y p v V WN E n = (true, (sgV t 123 (wdV t V), W, Y, v, WN), E, n) := (if_neg (sc_ne hq7)).trans ((if_pos hq14).trans (if_pos (s_cmp0 hq15)))
        rw [hT]
        have hsv9 : shv sh M8 s w n E := hsv.mv (fun z z1 z2 => ⟨rfl, fr11 z (by show ¬ (z = w ∨ (p ≤ z ∧ z ≤ p + 22)); omega)⟩) rfl
        have hf9 : fr (fun z => (s ≤ z ∧ z < s + 155) ∨ z = w ∨ (p ≤ z ∧ z ≤ p + 22)) M M8 := fun z hz => by
          have hz1 : ¬ ((s ≤ z ∧ z < s + 155) ∨ z = w ∨ (p ≤ z ∧ z ≤ p + 22)) := hz
          exact fr11 z (by show ¬ (z = w ∨ (p ≤ z ∧ z ≤ p + 22)); omega)
        exact ⟨rfl, rfl, rfl, rd9, rw12, hsv9, hf9⟩
    · skip
      refine go_iconst (v := 0) X d_Reader_takeItem_20 ?_
      refine go_iret X d_Reader_takeItem_21 rfl ?_ (by omega) (by omega) ?_
      · rfl
      have hT : tif t W Y p v V WN E n = (false, (sgV t 123 (wdV t V), W, Y, v, WN), E, n) := (if_neg (sc_ne hq7)).trans (if_neg (by rw [hq14]; decide))
      rw [hT]
      have hsv9 : shv sh M8 s w n E := hsv.mv (fun z z1 z2 => ⟨rfl, fr11 z (by show ¬ (z = w ∨ (p ≤ z ∧ z ≤ p + 22)); omega)⟩) rfl
      have hf9 : fr (fun z => (s ≤ z ∧ z < s + 155) ∨ z = w ∨ (p ≤ z ∧ z ≤ p + 22)) M M8 := fun z hz => by
        have hz1 : ¬ ((s ≤ z ∧ z < s + 155) ∨ z = w ∨ (p ≤ z ∧ z ≤ p + 22)) := hz
        exact fr11 z (by show ¬ (z = w ∨ (p ≤ z ∧ z ≤ p + 22)); omega)
      exact ⟨rfl, rfl, rfl, rd9, rw12, hsv9, hf9⟩
set_option maxHeartbeats 4000000 in
set_option maxRecDepth 100000 in
theorem d_Reader_begin (l : Launch) (D : va_G) {sh : s_S} {M : s_M} {sz p s w : Int} {V : Int → Int} {t : List Int} {W : Int → Int} {Y : Int → List Int} {v : List Int} (h : rdw sh M p s w V t W Y v) {WN : Int → Int} (hWN : M w = WN) {n : Int} {E : Int → sen} (hsv : shv sh M s w n E) (hsp : s + 155 ≤ p) : Sp l D y_Reader_begin prog_8_method_6_code 1 none 2 0 0 [vr p] sh M sz (fun v' sh' M' sz' => v' = none ∧ sh' = sh ∧ sz' = sz ∧ rdw sh M' p s w (rset (rset (rset V 5 0) 6 0) 7 0) t W Y v ∧ M' w = WN ∧ shv sh M' s w 0 E ∧ fr (fun z => z = s ∨ z = p) M M') := by
  have hp0 := h.2.2.2.2.2.2.1
  have hch := h.2.2.2.2.2.2.2.1.rng
  have hln := h.2.2.2.2.2.2.2.1.len
  have hn8 := hsv.2.2.2.2.2.2.1
  have hws := hsv.2.2.2.2.2.2.2.2.2.1
  refine Sp.ofGo (own := "CiteForge$Reader") (nm := "begin") (by decide) rfl rfl (Nat.le_of_ble_eq_true rfl) (lv := [(0, vr p)]) rfl ?_
  intro g X
  refine go_aload_n X d_Reader_begin_0 rfl rfl ?_
  refine go_get (v := vr s) X f_Reader_9 h.1 rfl d_Reader_begin_1 (s_vref (show M p 0 = s from (congrFun h.2.2.2.2.1 0).trans (h.2.2.2.2.2.1.1)) (by omega)) ?_
  refine go_cV (st2 := []) (r := []) X k_Reader_61 (c_Shelf_dropAll l D hsv) hsv.1 rfl rfl (by omega) (Nat.le_of_ble_eq_true rfl) d_Reader_begin_4 (by omega) (by omega) (fun v' sh' M1 sz' hpp => ?_)
  obtain ⟨e1, e2, e3, sv6, fr2⟩ := hpp
  subst e1
  rw [e2, e3]
  clear e2 e3
  show Go g 0 0 sh M1 sz 7 [(0, vr p)] []
  have rd3 : rdw sh M1 p s w V t W Y v := h.mv (fun z z1 z2 => fr2 z (by show ¬ (z = s); omega))
  have rw5 : M1 w = WN := (fr2 w (by show ¬ (w = s); omega)).trans hWN
  have fr4 : fr (fun z => z = s ∨ z = p) M M1 := fun z hz => by
    have hz1 : ¬ (z = s ∨ z = p) := hz
    exact fr2 z (by show ¬ (z = s); omega)
  have hMs := sv6
  refine go_aload_n X d_Reader_begin_7 rfl rfl ?_
  refine go_iconst (v := 0) X d_Reader_begin_8 ?_
  refine go_put (x := 0) (v := vi 0) X f_Reader_66 rd3.1 rfl d_Reader_begin_9 rfl rfl rfl ?_
  generalize hM8 : m_s M1 p 5 0 = M7
  have rd9 : rdw sh M7 p s w (rset V 5 0) t W Y v := by rw [← hM8]; exact rd3.put (by decide)
  have fr10 : fr (fun z => z = s ∨ z = p) M M7 := fun z hz => by
    have hz1 : ¬ (z = s ∨ z = p) := hz
    rw [← hM8]; exact (m_s_a (by omega)).trans (fr4 z hz)
  have rw11 : M7 w = WN := by rw [← hM8]; exact (m_s_a (by omega)).trans rw5
  refine go_aload_n X d_Reader_begin_12 rfl rfl ?_
  refine go_iconst (v := 0) X d_Reader_begin_13 ?_
  refine go_put (x := 0) (v := vi 0) X f_Reader_70 rd3.1 rfl d_Reader_begin_14 rfl rfl rfl ?_
  generalize hM13 : m_s M7 p 6 0 = M12
  have rd14 : rdw sh M12 p s w (rset (rset V 5 0) 6 0) t W Y v := by rw [← hM13]; exact rd9.put (by decide)
  have fr15 : fr (fun z => z = s ∨ z = p) M M12 := fun z hz => by
    have hz1 : ¬ (z = s ∨ z = p) := hz
    rw [← hM13]; exact (m_s_a (by omega)).trans (fr10 z hz)
  have rw16 : M12 w = WN := by rw [← hM13]; exact (m_s_a (by omega)).trans rw11
  refine go_aload_n X d_Reader_begin_17 rfl rfl ?_
  refine go_iconst (v := 0) X d_Reader_begin_18 ?_
  refine go_put (x := 0) (v := vi 0) X f_Reader_73 rd3.1 rfl d_Reader_begin_19 rfl rfl rfl ?_
  generalize hM18 : m_s M12 p 7 0 = M17
  have rd19 : rdw sh M17 p s w (rset (rset (rset V 5 0) 6 0) 7 0) t W Y v := by rw [← hM18]; exact rd14.put (by decide)
  have fr20 : fr (fun z => z = s ∨ z = p) M M17 := fun z hz => by
    have hz1 : ¬ (z = s ∨ z = p) := hz
    rw [← hM18]; exact (m_s_a (by omega)).trans (fr15 z hz)
  have rw21 : M17 w = WN := by rw [← hM18]; exact (m_s_a (by omega)).trans rw16
  refine go_vret X d_Reader_begin_22 rfl (by omega) (by omega) ?_
  have hsv9 : shv sh M17 s w 0 E := sv6.mv (fun z z1 z2 => ⟨rfl, by rw [← hM18, m_s_a (by omega), ← hM13, m_s_a (by omega), ← hM8, m_s_a (by omega)]⟩) rfl
  exact ⟨rfl, rfl, rfl, rd19, rw21, hsv9, fr20⟩
