theorem rdw.mv {sh : s_S} {M M' : s_M} {p s w : Int} {V : Int → Int} {t : List Int} {W : Int → Int} {Y : Int → List Int} {v : List Int} (h : rdw sh M p s w V t W Y v) (hu : ∀ z, p ≤ z → z ≤ p + 22 → M' z = M z) : rdw sh M' p s w V t W Y v := by
  obtain ⟨q1, q2, q3, q4, q5, q6, q7, q8, q9, q10, q11, q12⟩ := h
  exact ⟨q1, q2, q3, q4, (hu p (by omega) (by omega)).trans q5, q6, q7, q8.mv (fun z z1 z2 => ⟨rfl, hu z (by omega) (by omega)⟩), (hu (p + 3) (by omega) (by omega)).trans q9, q10, q11.mv (fun z z1 z2 => ⟨rfl, hu z (by omega) (by omega)⟩), q12.mv (fun z z1 z2 => ⟨rfl, hu z (by omega) (by omega)⟩)⟩
/-- a word, '=', a value: whether, the word, the rest -/
def wv1 (t : List Int) (W : Int → Int) (Y : Int → List Int) (p : Int) (v : List Int) (V WN : Int → Int) : Bool × Int × tvT :=
  if (tkw t (V 6)).1 = 0 then (false, (tkw t (V 6)).1, (v, wdV t V, WN))
  else if (tsk t 61 (wdV t V 6)).1 = true then ((tvf t W Y p (sgV t 61 (wdV t V)) WN).1, (tkw t (V 6)).1, ((tvf t W Y p (sgV t 61 (wdV t V)) WN).2.1, (tvf t W Y p (sgV t 61 (wdV t V)) WN).2.2.1, tvW (tvf t W Y p (sgV t 61 (wdV t V)) WN)))
  else (false, (tkw t (V 6)).1, (v, sgV t 61 (wdV t V), WN))
abbrev rsT : Type := (Int → Int) × (Int → Int) × (Int → List Int) × List Int × (Int → Int)
/-- the numbers, words, texts, value, warnings behind a string's item -/
def tsf (t : List Int) (W : Int → Int) (Y : Int → List Int) (p : Int) (v : List Int) (V WN : Int → Int) : Bool × rsT :=
  if (wv1 t W Y p v V WN).1 = true then
    (if (tsk t 125 ((wv1 t W Y p v V WN).2.2.2.1 6)).1 = true then
      (true, ksV W (wv1 t W Y p v V WN).2.1 (sgV t 125 (wv1 t W Y p v V WN).2.2.2.1), ksW W (sgV t 125 (wv1 t W Y p v V WN).2.2.2.1 5) (wv1 t W Y p v V WN).2.1, ksY W Y (sgV t 125 (wv1 t W Y p v V WN).2.2.2.1 5) (wv1 t W Y p v V WN).2.1 (wv1 t W Y p v V WN).2.2.1, (wv1 t W Y p v V WN).2.2.1, ksN W (sgV t 125 (wv1 t W Y p v V WN).2.2.2.1 5) (wv1 t W Y p v V WN).2.1 (wv1 t W Y p v V WN).2.2.2.2)
    else (false, sgV t 125 (wv1 t W Y p v V WN).2.2.2.1, W, Y, (wv1 t W Y p v V WN).2.2.1, (wv1 t W Y p v V WN).2.2.2.2))
  else (false, (wv1 t W Y p v V WN).2.2.2.1, W, Y, (wv1 t W Y p v V WN).2.2.1, (wv1 t W Y p v V WN).2.2.2.2)
theorem sgV_ok {t : List Int} {V : Int → Int} {c : Int} (h : vok t V) (hc : c ≠ 0) : vok t (sgV t c V) ∧ sgV t c V 5 = V 5 := by
  have hb := tsk_rng (t := t) h.1 hc
  have h1 := h.1
  unfold sgV
  exact ⟨plV_ok h (by omega), by simp [rset]⟩
theorem tv1_ok {t : List Int} {W : Int → Int} {Y : Int → List Int} {p : Int} {s : tvT} (h : vok t s.2.1) (ht : t.length ≤ 320) (hY : ∀ k : Int, 0 ≤ k → k < 8 → (Y k).length ≤ 60) : vok t (tv1 t W Y p s).2.2.2.1 ∧ (tv1 t W Y p s).2.2.2.1 5 = s.2.1 5 := by
  obtain ⟨hvk, hvs, -⟩ := tpc_ok (W := W) (p := p) (WN := s.2.2) h ht hY
  obtain ⟨ha1, ha2, ha3⟩ := apc_ok (u := ptx t Y p (tpc t W Y p s.2.1 s.2.2).2.1) (b := (tpc t W Y p s.2.1 s.2.2).2.1 9) (e := (tpc t W Y p s.2.1 s.2.2).2.1 10) (v := s.1) hvk.2.2.1 hvk.2.2.2
  have e1 : (tvA t W Y p s).2 6 = (tpc t W Y p s.2.1 s.2.2).2.1 6 := ha1 6 (by decide) (by decide)
  have e2 : (tvA t W Y p s).2 5 = (tpc t W Y p s.2.1 s.2.2).2.1 5 := ha1 5 (by decide) (by decide)
  have hva : vok t (tvA t W Y p s).2 := ⟨by rw [e1]; exact hvk.1, by rw [e2]; exact hvk.2.1, ha2, ha3⟩
  obtain ⟨h1, h2⟩ := sgV_ok (c := 35) hva (by decide)
  unfold tv1
  split
  · exact ⟨h1, h2.trans (e2.trans hvs)⟩
  · exact ⟨hvk, hvs⟩
theorem tvl_ok {t : List Int} {W : Int → Int} {Y : Int → List Int} {p : Int} (ht : t.length ≤ 320) (hY : ∀ k : Int, 0 ≤ k → k < 8 → (Y k).length ≤ 60) : ∀ (m : Nat) (b : Bool) (s : tvT), vok t s.2.1 → vok t (tvl t W Y p m b s).2.2.1 ∧ (tvl t W Y p m b s).2.2.1 5 = s.2.1 5
  | 0, b, s, h => ⟨h, rfl⟩
  | m + 1, b, s, h => by
    have h1 := tv1_ok (W := W) (p := p) h ht hY
    unfold tvl
    split
    · split
      · have h2 := tvl_ok ht hY m (tv1 t W Y p s).2.1 (tv1 t W Y p s).2.2 h1.1
        exact ⟨h2.1, h2.2.trans h1.2⟩
      · exact h1
    · exact ⟨h, rfl⟩
theorem tvf_ok {t : List Int} {W : Int → Int} {Y : Int → List Int} {p : Int} {V WN : Int → Int} (h : vok t V) (ht : t.length ≤ 320) (hY : ∀ k : Int, 0 ≤ k → k < 8 → (Y k).length ≤ 60) : vok t (tvf t W Y p V WN).2.2.1 ∧ (tvf t W Y p V WN).2.2.1 5 = V 5 := by
  obtain ⟨h1, h2, h3, h4⟩ := h
  have h0 : vok t (rset (rset V 12 0) 13 0) := by
    refine ⟨?_, ?_, ?_, ?_⟩ <;> simp [rset] <;> omega
  have := tvl_ok (W := W) (p := p) ht hY ((320 : Int) - 0).toNat true ([], rset (rset V 12 0) 13 0, WN) h0
  exact ⟨this.1, this.2.trans (by simp [rset])⟩
theorem wv1_ok {t : List Int} {W : Int → Int} {Y : Int → List Int} {p : Int} {v : List Int} {V WN : Int → Int} (h : vok t V) (ht : t.length ≤ 320) (hY : ∀ k : Int, 0 ≤ k → k < 8 → (Y k).length ≤ 60) : vok t (wv1 t W Y p v V WN).2.2.2.1 ∧ (wv1 t W Y p v V WN).2.2.2.1 5 = V 5 ∧ rL (wv1 t W Y p v V WN).2.1 := by
  have hw := tkw_rng t (V 6)
  obtain ⟨a1, a2⟩ := wdV_ok h
  obtain ⟨b1, b2⟩ := sgV_ok (c := 61) a1 (by decide)
  unfold wv1
  split
  · exact ⟨a1, a2, hw⟩
  · split
    · have := tvf_ok (W := W) (p := p) (WN := WN) b1 ht hY
      exact ⟨this.1, this.2.trans (b2.trans a2), hw⟩
    · exact ⟨b1, b2.trans a2, hw⟩
set_option maxHeartbeats 4000000 in
set_option maxRecDepth 100000 in
theorem c_Reader_takeString (l : Launch) (D : va_G) {sh : s_S} {M : s_M} {sz p s w : Int} {V : Int → Int} {t : List Int} {W : Int → Int} {Y : Int → List Int} {v : List Int} (h : rdw sh M p s w V t W Y v) (hok : vok t V) {WN : Int → Int} (hWN : M w = WN) : Sp l D y_Reader_takeString prog_8_method_10_code 3 (some .boolean) 6 0 0 [vr p] sh M sz (fun v' sh' M' sz' => v' = some (vi (s_b (tsf t W Y p v V WN).1)) ∧ sh' = sh ∧ sz' = sz ∧ rdw sh M' p s w (tsf t W Y p v V WN).2.1 t (tsf t W Y p v V WN).2.2.1 (tsf t W Y p v V WN).2.2.2.1 (tsf t W Y p v V WN).2.2.2.2.1 ∧ M' w = (tsf t W Y p v V WN).2.2.2.2.2 ∧ fr (fun z => z = p ∨ z = w ∨ z = p + 3 ∨ (p + 5 ≤ z ∧ z ≤ p + 22)) M M') := by
  have hp0 := h.2.2.2.2.2.2.1
  have hch := h.2.2.2.2.2.2.2.1.rng
  have hln := h.2.2.2.2.2.2.2.1.len
  have hY : ∀ k : Int, 0 ≤ k → k < 8 → (Y k).length ≤ 60 := fun k k0 k1 => (h.2.2.2.2.2.2.2.2.2.2.1 k k0 k1).2.len
  refine Sp.ofGo (own := "CiteForge$Reader") (nm := "takeString") (by decide) rfl rfl (Nat.le_of_ble_eq_true rfl) (lv := [(0, vr p)]) rfl ?_
  intro g X
  refine go_aload_n X d_Reader_takeString_0 rfl rfl ?_
  refine go_cV (st2 := []) (r := []) X k_Reader_80 (c_Reader_takeWord l D h hok.1) h.1 rfl rfl (by omega) (Nat.le_of_ble_eq_true rfl) d_Reader_takeString_1 (by omega) (by omega) (fun v' sh' M1 sz' hpp => ?_)
  obtain ⟨e1, e2, e3, rd6, fr3⟩ := hpp
  subst e1
  rw [e2, e3]
  clear e2 e3
  show Go g 0 0 sh M1 sz 4 [(0, vr p)] [vl ((tkw t (V 6)).1)]
  have rd2 : rdw sh M1 p s w (wdV t V) t W Y v := rd6
  clear rd6
  have rw5 : M1 w = WN := (fr3 w (by show ¬ (w = p); omega)).trans hWN
  have fr4 : fr (fun z => z = p ∨ z = w ∨ z = p + 3 ∨ (p + 5 ≤ z ∧ z ≤ p + 22)) M M1 := fun z hz => by
    have hz1 : ¬ (z = p ∨ z = w ∨ z = p + 3 ∨ (p + 5 ≤ z ∧ z ≤ p + 22)) := hz
    exact (fr3 z (by show ¬ (z = p); omega))
  have hwr := tkw_rng t (V 6)
  have ow := wdV_ok hok
  have hc9 := s_cmp_rng ((tkw t (V 6)).1) 0
  refine go_lstore_n (lv' := [(1, vl ((tkw t (V 6)).1)), (0, vr p)]) X d_Reader_takeString_4 rfl (by decide) rfl ?_
  refine go_lload_n X d_Reader_takeString_5 rfl rfl ?_
  refine go_lconst (x := 0) X d_Reader_takeString_6 (by decide) ?_
  refine go_lcmp X (by omega) (by omega) d_Reader_takeString_7 ?_
  refine go_if_eq (tgt := 36) X d_Reader_takeString_8 rfl (by omega) (fun hq7 => ?_) (fun hq7 => ?_)
  · skip
    refine go_iconst (v := 0) X d_Reader_takeString_36 ?_
    refine go_iret X d_Reader_takeString_37 rfl ?_ (by omega) (by omega) ?_
    · rfl
    have hW : wv1 t W Y p v V WN = (false, (tkw t (V 6)).1, (v, wdV t V, WN)) := if_pos (sc_eq hq7)
    have hT : tsf t W Y p v V WN = (false, (wdV t V, W, Y, v, WN)) := by
      unfold tsf; rw [hW]; exact if_neg (fun q => Bool.noConfusion q)
    rw [hT]
    exact ⟨rfl, rfl, rfl, rd2, rw5, fr4⟩
  · skip
    refine go_aload_n X d_Reader_takeString_11 rfl rfl ?_
    refine go_bipush (v := 61) X d_Reader_takeString_12 (by decide) ?_
    refine go_cV (st2 := []) (r := []) X k_Reader_84 (c_Reader_takeSign l D rd2 ow.1.1 (c := 61) (by decide)) rd2.1 rfl rfl (by omega) (Nat.le_of_ble_eq_true rfl) d_Reader_takeString_14 (by omega) (by omega) (fun v' sh' M8 sz' hpp => ?_)
    obtain ⟨e1, e2, e3, rd13, fr10⟩ := hpp
    subst e1
    rw [e2, e3]
    clear e2 e3
    show Go g 0 0 sh M8 sz 17 [(1, vl ((tkw t (V 6)).1)), (0, vr p)] [vi (s_b (tsk t 61 (wdV t V 6)).1)]
    have rd9 : rdw sh M8 p s w (sgV t 61 (wdV t V)) t W Y v := rd13
    clear rd13
    have rw12 : M8 w = WN := (fr10 w (by show ¬ (w = p); omega)).trans rw5
    have fr11 : fr (fun z => z = p ∨ z = w ∨ z = p + 3 ∨ (p + 5 ≤ z ∧ z ≤ p + 22)) M M8 := fun z hz => by
      have hz1 : ¬ (z = p ∨ z = w ∨ z = p + 3 ∨ (p + 5 ≤ z ∧ z ≤ p + 22)) := hz
      exact (fr10 z (by show ¬ (z = p); omega)).trans (fr4 z hz)
    have os := sgV_ok (c := 61) ow.1 (by decide)
    refine go_ifb_eq (tgt := 36) X d_Reader_takeString_17 rfl (fun hq14 => ?_) (fun hq14 => ?_)
    · skip
      refine go_iconst (v := 0) X d_Reader_takeString_36 ?_
      refine go_iret X d_Reader_takeString_37 rfl ?_ (by omega) (by omega) ?_
      · rfl
      have hW : wv1 t W Y p v V WN = (false, (tkw t (V 6)).1, (v, sgV t 61 (wdV t V), WN)) := (if_neg (sc_ne hq7)).trans (if_neg (by rw [hq14]; decide))
      have hT : tsf t W Y p v V WN = (false, (sgV t 61 (wdV t V), W, Y, v, WN)) := by
        unfold tsf; rw [hW]; exact if_neg (fun q => Bool.noConfusion q)
      rw [hT]
      exact ⟨rfl, rfl, rfl, rd9, rw12, fr11⟩
    · skip
      refine go_aload_n X d_Reader_takeString_20 rfl rfl ?_
      refine go_cV (st2 := []) (r := []) X k_Reader_100 (c_Reader_takeValue l D rd9 os.1.1 os.1.2.1 rw12) rd9.1 rfl rfl (by omega) (Nat.le_of_ble_eq_true rfl) d_Reader_takeString_21 (by omega) (by omega) (fun v' sh' M15 sz' hpp => ?_)
      obtain ⟨e1, e2, e3, rd20, rw19, fr17⟩ := hpp
      subst e1
      rw [e2, e3]
      clear e2 e3
      show Go g 0 0 sh M15 sz 24 [(1, vl ((tkw t (V 6)).1)), (0, vr p)] [vi (s_b (tvf t W Y p (sgV t 61 (wdV t V)) WN).1)]
      have rd16 : rdw sh M15 p s w ((tvf t W Y p (sgV t 61 (wdV t V)) WN).2.2.1) t W Y ((tvf t W Y p (sgV t 61 (wdV t V)) WN).2.1) := rd20
      clear rd20
      have fr18 : fr (fun z => z = p ∨ z = w ∨ z = p + 3 ∨ (p + 5 ≤ z ∧ z ≤ p + 22)) M M15 := fun z hz => by
        have hz1 : ¬ (z = p ∨ z = w ∨ z = p + 3 ∨ (p + 5 ≤ z ∧ z ≤ p + 22)) := hz
        exact (fr17 z (by show ¬ (z = p ∨ z = w ∨ z = p + 21 ∨ z = p + 22); omega)).trans (fr11 z hz)
      have ov := tvf_ok (W := W) (p := p) (WN := WN) os.1 hln hY
      refine go_ifb_eq (tgt := 36) X d_Reader_takeString_24 rfl (fun hq21 => ?_) (fun hq21 => ?_)
      · skip
        refine go_iconst (v := 0) X d_Reader_takeString_36 ?_
        refine go_iret X d_Reader_takeString_37 rfl ?_ (by omega) (by omega) ?_
        · rfl
        have hW : wv1 t W Y p v V WN = ((tvf t W Y p (sgV t 61 (wdV t V)) WN).1, (tkw t (V 6)).1, ((tvf t W Y p (sgV t 61 (wdV t V)) WN).2.1, (tvf t W Y p (sgV t 61 (wdV t V)) WN).2.2.1, tvW (tvf t W Y p (sgV t 61 (wdV t V)) WN))) := (if_neg (sc_ne hq7)).trans (if_pos hq14)
        have hT : tsf t W Y p v V WN = (false, ((tvf t W Y p (sgV t 61 (wdV t V)) WN).2.2.1, W, Y, (tvf t W Y p (sgV t 61 (wdV t V)) WN).2.1, tvW (tvf t W Y p (sgV t 61 (wdV t V)) WN))) := by
          unfold tsf; rw [hW]; exact if_neg (by show ¬ (tvf t W Y p (sgV t 61 (wdV t V)) WN).1 = true; rw [hq21]; decide)
        rw [hT]
        exact ⟨rfl, rfl, rfl, rd16, rw19, fr18⟩
      · skip
        refine go_aload_n X d_Reader_takeString_27 rfl rfl ?_
        refine go_bipush (v := 125) X d_Reader_takeString_28 (by decide) ?_
        refine go_cV (st2 := []) (r := []) X k_Reader_84 (c_Reader_takeSign l D rd16 ov.1.1 (c := 125) (by decide)) rd16.1 rfl rfl (by omega) (Nat.le_of_ble_eq_true rfl) d_Reader_takeString_30 (by omega) (by omega) (fun v' sh' M22 sz' hpp => ?_)
        obtain ⟨e1, e2, e3, rd27, fr24⟩ := hpp
        subst e1
        rw [e2, e3]
        clear e2 e3
        show Go g 0 0 sh M22 sz 33 [(1, vl ((tkw t (V 6)).1)), (0, vr p)] [vi (s_b (tsk t 125 ((tvf t W Y p (sgV t 61 (wdV t V)) WN).2.2.1 6)).1)]
        have rd23 : rdw sh M22 p s w (sgV t 125 (tvf t W Y p (sgV t 61 (wdV t V)) WN).2.2.1) t W Y ((tvf t W Y p (sgV t 61 (wdV t V)) WN).2.1) := rd27
        clear rd27
        have rw26 : M22 w = tvW (tvf t W Y p (sgV t 61 (wdV t V)) WN) := (fr24 w (by show ¬ (w = p); omega)).trans rw19
        have fr25 : fr (fun z => z = p ∨ z = w ∨ z = p + 3 ∨ (p + 5 ≤ z ∧ z ≤ p + 22)) M M22 := fun z hz => by
          have hz1 : ¬ (z = p ∨ z = w ∨ z = p + 3 ∨ (p + 5 ≤ z ∧ z ≤ p + 22)) := hz
          exact (fr24 z (by show ¬ (z = p); omega)).trans (fr18 z hz)
        have oc := sgV_ok (c := 125) ov.1 (by decide)
        refine go_ifb_ne (tgt := 38) X d_Reader_takeString_33 rfl (fun hq28 => ?_) (fun hq28 => ?_)
        · skip
          refine go_aload_n X d_Reader_takeString_38 rfl rfl ?_
          refine go_lload_n X d_Reader_takeString_39 rfl rfl ?_
          refine go_cV (st2 := []) (r := []) X k_Reader_103 (c_Reader_keepString l D rd23 oc.1.2.1 hwr rw26) rd23.1 rfl rfl (by omega) (Nat.le_of_ble_eq_true rfl) d_Reader_takeString_40 (by omega) (by omega) (fun v' sh' M29 sz' hpp => ?_)
          obtain ⟨e1, e2, e3, rd34, rw33, fr31⟩ := hpp
          subst e1
          rw [e2, e3]
          clear e2 e3
          show Go g 0 0 sh M29 sz 43 [(1, vl ((tkw t (V 6)).1)), (0, vr p)] []
          have rd30 : rdw sh M29 p s w (ksV W (tkw t (V 6)).1 (sgV t 125 (tvf t W Y p (sgV t 61 (wdV t V)) WN).2.2.1)) t (ksW W (sgV t 125 (tvf t W Y p (sgV t 61 (wdV t V)) WN).2.2.1 5) (tkw t (V 6)).1) (ksY W Y (sgV t 125 (tvf t W Y p (sgV t 61 (wdV t V)) WN).2.2.1 5) (tkw t (V 6)).1 (tvf t W Y p (sgV t 61 (wdV t V)) WN).2.1) ((tvf t W Y p (sgV t 61 (wdV t V)) WN).2.1) := rd34
          clear rd34
          have fr32 : fr (fun z => z = p ∨ z = w ∨ z = p + 3 ∨ (p + 5 ≤ z ∧ z ≤ p + 22)) M M29 := fun z hz => by
            have hz1 : ¬ (z = p ∨ z = w ∨ z = p + 3 ∨ (p + 5 ≤ z ∧ z ≤ p + 22)) := hz
            exact (fr31 z (by show ¬ (z = p ∨ z = w ∨ z = p + 3 ∨ (p + 5 ≤ z ∧ z ≤ p + 20)); omega)).trans (fr25 z hz)
          refine go_iconst (v := 1) X d_Reader_takeString_43 ?_
          refine go_iret X d_Reader_takeString_44 rfl ?_ (by omega) (by omega) ?_
          · rfl
          have hW : wv1 t W Y p v V WN = ((tvf t W Y p (sgV t 61 (wdV t V)) WN).1, (tkw t (V 6)).1, ((tvf t W Y p (sgV t 61 (wdV t V)) WN).2.1, (tvf t W Y p (sgV t 61 (wdV t V)) WN).2.2.1, tvW (tvf t W Y p (sgV t 61 (wdV t V)) WN))) := (if_neg (sc_ne hq7)).trans (if_pos hq14)
          have hT : tsf t W Y p v V WN = (true, (ksV W (tkw t (V 6)).1 (sgV t 125 (tvf t W Y p (sgV t 61 (wdV t V)) WN).2.2.1), ksW W (sgV t 125 (tvf t W Y p (sgV t 61 (wdV t V)) WN).2.2.1 5) (tkw t (V 6)).1, ksY W Y (sgV t 125 (tvf t W Y p (sgV t 61 (wdV t V)) WN).2.2.1 5) (tkw t (V 6)).1 (tvf t W Y p (sgV t 61 (wdV t V)) WN).2.1, (tvf t W Y p (sgV t 61 (wdV t V)) WN).2.1, ksN W (sgV t 125 (tvf t W Y p (sgV t 61 (wdV t V)) WN).2.2.1 5) (tkw t (V 6)).1 (tvW (tvf t W Y p (sgV t 61 (wdV t V)) WN)))) := by
            unfold tsf; rw [hW]; exact (if_pos hq21).trans (if_pos hq28)
          rw [hT]
          exact ⟨rfl, rfl, rfl, rd30, rw33, fr32⟩
        · skip
          refine go_iconst (v := 0) X d_Reader_takeString_36 ?_
          refine go_iret X d_Reader_takeString_37 rfl ?_ (by omega) (by omega) ?_
          · rfl
          have hW : wv1 t W Y p v V WN = ((tvf t W Y p (sgV t 61 (wdV t V)) WN).1, (tkw t (V 6)).1, ((tvf t W Y p (sgV t 61 (wdV t V)) WN).2.1, (tvf t W Y p (sgV t 61 (wdV t V)) WN).2.2.1, tvW (tvf t W Y p (sgV t 61 (wdV t V)) WN))) := (if_neg (sc_ne hq7)).trans (if_pos hq14)
          have hT : tsf t W Y p v V WN = (false, (sgV t 125 (tvf t W Y p (sgV t 61 (wdV t V)) WN).2.2.1, W, Y, (tvf t W Y p (sgV t 61 (wdV t V)) WN).2.1, tvW (tvf t W Y p (sgV t 61 (wdV t V)) WN))) := by
            unfold tsf; rw [hW]; exact (if_pos hq21).trans (if_neg (by show ¬ (tsk t 125 ((tvf t W Y p (sgV t 61 (wdV t V)) WN).2.2.1 6)).1 = true; rw [hq28]; decide))
          rw [hT]
          exact ⟨rfl, rfl, rfl, rd23, rw26, fr25⟩
