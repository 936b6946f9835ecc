/-- what the reader keeps of its numbers -/
def vok (t : List Int) (V : Int → Int) : Prop := (0 ≤ V 6 ∧ V 6 ≤ t.length) ∧ (0 ≤ V 5 ∧ V 5 ≤ 8)
def bok (V : Int → Int) : Prop := (0 ≤ V 12 ∧ V 12 ≤ 1) ∧ (0 ≤ V 13 ∧ V 13 ≤ 1)
/-- the piece at hand -/
def pok (p : Int) (V : Int → Int) : Prop := (0 ≤ V 9 ∧ V 9 ≤ 1000) ∧ (0 ≤ V 10 ∧ V 10 ≤ 1000) ∧ (V 8 = p + 1 ∨ ∃ k : Int, 0 ≤ k ∧ k < 8 ∧ V 8 = p + 4 + 1 + 2 * k)
def ptx (t : List Int) (Y : Int → List Int) (p : Int) (V : Int → Int) : List Int := if V 8 = p + 1 then t else Y ((V 8 - p - 5) / 2)
theorem rdw.pcx {sh : s_S} {M : s_M} {p s w : Int} {V : Int → Int} {t : List Int} {W : Int → Int} {Y : Int → List Int} {v : List Int} (h : rdw sh M p s w V t W Y v) (hp : pok p V) : ∃ K : Nat, tv sh M (V 8) K (ptx t Y p V) ∧ p < V 8 ∧ V 8 + 1 < p + 21 := by
  obtain ⟨-, -, e | ⟨k, k0, k1, e⟩⟩ := hp
  · refine ⟨320, ?_, by omega, by omega⟩
    unfold ptx
    rw [if_pos e, e]
    exact h.2.2.2.2.2.2.2.1
  · refine ⟨60, ?_, by omega, by omega⟩
    unfold ptx
    rw [if_neg (by omega), show (V 8 - p - 5) / 2 = k by omega, e]
    exact (h.2.2.2.2.2.2.2.2.2.2.1 k k0 k1).2
theorem brc_rng {t : List Int} : ∀ (m : Nat) (i v : Int), brc t m i v = -1 ∨ (i ≤ brc t m i v ∧ brc t m i v < i + m)
  | 0, i, v => Or.inl rfl
  | m + 1, i, v => by
    unfold brc
    split
    · right; omega
    · rcases brc_rng (t := t) m (i + 1) (p_lev v (tg t i)) with h | h
      · left; exact h
      · right; omega
theorem qtc_rng {t : List Int} : ∀ (m : Nat) (i v : Int), ((qtc t m i v).1 = 0 ∧ (qtc t m i v).2 = t.length) ∨ (((qtc t m i v).1 = 1 ∨ (qtc t m i v).1 = 2) ∧ i ≤ (qtc t m i v).2 ∧ (qtc t m i v).2 < i + m)
  | 0, i, v => Or.inl ⟨rfl, rfl⟩
  | m + 1, i, v => by
    unfold qtc
    split
    · right; exact ⟨Or.inl rfl, Int.le_refl _, by show i < i + ((m + 1 : Nat) : Int); omega⟩
    · split
      · right; exact ⟨Or.inr rfl, Int.le_refl _, by show i < i + ((m + 1 : Nat) : Int); omega⟩
      · rcases qtc_rng (t := t) m (i + 1) (p_lev v (tg t i)) with h | h
        · left; exact h
        · right; exact ⟨h.1, by omega, by omega⟩
theorem dgr_rng {t : List Int} : ∀ (m : Nat) (q : Int), 0 ≤ q → q ≤ t.length → q ≤ dgr t m q ∧ dgr t m q ≤ t.length
  | 0, q, h0, h1 => ⟨Int.le_refl _, h1⟩
  | m + 1, q, h0, h1 => by
    unfold dgr
    split
    · rename_i hc
      have : q < t.length := by
        rcases Int.lt_or_le q t.length with z | z
        · exact z
        · rw [tg_out (by omega)] at hc
          exact absurd hc (by decide)
      have := dgr_rng (t := t) m (q + 1) (by omega) (by omega)
      omega
    · omega
theorem tsk_rng {t : List Int} {c i : Int} (h : 0 ≤ i ∧ i ≤ t.length) (hc : c ≠ 0) : i ≤ (tsk t c i).2 ∧ (tsk t c i).2 ≤ t.length := by
  have hp := pb_rng (t := t) h
  unfold tsk
  split
  · rename_i e
    show i ≤ pb t i + 1 ∧ pb t i + 1 ≤ t.length
    rcases Int.lt_or_le (pb t i) t.length with z | z
    · omega
    · rw [tg_out (by omega)] at e
      exact absurd e.symm hc
  · exact hp
theorem tkw_i {t : List Int} {i : Int} (h : 0 ≤ i ∧ i ≤ t.length) : i ≤ (tkw t i).2 ∧ (tkw t i).2 ≤ t.length := by
  have hp := pb_rng (t := t) h
  obtain ⟨h1, h2, h3⟩ := tkr_i (t := t) ((8 : Int) - 0).toNat 0 (pb t i) 0
  unfold tkw
  exact ⟨by omega, h3 hp.2⟩
theorem pbV_ok {t : List Int} {V : Int → Int} (h : vok t V) : vok t (pbV t V) := by
  obtain ⟨h1, h2⟩ := h
  have := pb_rng (t := t) h1
  refine ⟨?_, ?_⟩ <;> simp [pbV, rset] <;> omega
theorem plV_ok {t : List Int} {V : Int → Int} {q : Int} (h : vok t V) (hq : 0 ≤ q ∧ q ≤ t.length) : vok t (rset V 6 q) := by
  obtain ⟨h1, h2⟩ := h
  refine ⟨?_, ?_⟩ <;> simp [rset] <;> omega
theorem spV_ok {t : List Int} {V : Int → Int} {p b e : Int} (h : vok t V) : vok t (spV V p b e) := by
  obtain ⟨h1, h2⟩ := h
  refine ⟨?_, ?_⟩ <;> simp [spV, rset] <;> omega
theorem spV_pok {V : Int → Int} {p b e : Int} (hb : 0 ≤ b ∧ b ≤ 1000) (he : 0 ≤ e ∧ e ≤ 1000) : pok p (spV V p b e) := by
  refine ⟨?_, ?_, Or.inl ?_⟩ <;> simp [spV, rset] <;> omega
theorem pok_pl {V : Int → Int} {p q : Int} (h : pok p V) : pok p (rset V 6 q) := by
  obtain ⟨h1, h2, h3⟩ := h
  exact ⟨by simp [rset]; omega, by simp [rset]; omega, by simpa [rset] using h3⟩
theorem bkV_ok {t : List Int} {V : Int → Int} {p : Int} (h : vok t V) (ht : t.length ≤ 320) : vok t (bkV t p V) ∧ bkV t p V 5 = V 5 ∧ (0 ≤ brk t (V 6) → pok p (bkV t p V)) := by
  have hb : brk t (V 6) = -1 ∨ (V 6 ≤ brk t (V 6) ∧ brk t (V 6) < V 6 + (((t.length : Int) - V 6).toNat : Int)) := brc_rng _ _ _
  have hpl := h.1
  unfold bkV
  split
  · exact ⟨plV_ok (spV_ok h) (by omega), by simp [spV, rset], fun _ => pok_pl (spV_pok (by omega) (by omega))⟩
  · rename_i q
    exact ⟨plV_ok h (by omega), by simp [rset], fun z => absurd z q⟩
theorem qkV_ok {t : List Int} {V : Int → Int} {p : Int} (h : vok t V) (ht : t.length ≤ 320) : vok t (qkV t p V) ∧ qkV t p V 5 = V 5 ∧ ((qtk t (V 6)).1 = 1 → pok p (qkV t p V)) := by
  have hb : ((qtk t (V 6)).1 = 0 ∧ (qtk t (V 6)).2 = t.length) ∨ (((qtk t (V 6)).1 = 1 ∨ (qtk t (V 6)).1 = 2) ∧ V 6 + 1 ≤ (qtk t (V 6)).2 ∧ (qtk t (V 6)).2 < V 6 + 1 + (((t.length : Int) - (V 6 + 1)).toNat : Int)) := qtc_rng _ _ _
  have hpl := h.1
  unfold qkV
  split
  · exact ⟨plV_ok (spV_ok h) (by omega), by simp [spV, rset], fun _ => pok_pl (spV_pok (by omega) (by omega))⟩
  · rename_i q
    exact ⟨plV_ok h (by omega), by simp [rset], fun z => absurd z q⟩
theorem dgV_ok {t : List Int} {V : Int → Int} {p : Int} (h : vok t V) (ht : t.length ≤ 320) : vok t (dgV t p V) ∧ dgV t p V 5 = V 5 ∧ pok p (dgV t p V) := by
  have hpl := h.1
  have hb : V 6 ≤ dgt t (V 6) ∧ dgt t (V 6) ≤ t.length := dgr_rng _ _ hpl.1 hpl.2
  unfold dgV
  exact ⟨spV_ok (plV_ok h (by omega)), by simp [spV, rset], spV_pok (by omega) (by omega)⟩
theorem wdV_ok {t : List Int} {V : Int → Int} (h : vok t V) : vok t (wdV t V) ∧ wdV t V 5 = V 5 := by
  have hpl := h.1
  have hb := tkw_i (t := t) hpl
  unfold wdV
  exact ⟨plV_ok h (by omega), by simp [rset]⟩
theorem tmV_ok {t : List Int} {W V : Int → Int} {Y : Int → List Int} {p u : Int} (h : vok t V) (hY : ∀ k : Int, 0 ≤ k → k < 8 → (Y k).length ≤ 60) : vok t (tmV W Y p u V) ∧ tmV W Y p u V 5 = V 5 ∧ pok p (tmV W Y p u V) := by
  have hst := h.2
  unfold tmV
  split
  · exact ⟨spV_ok h, by simp [spV, rset], spV_pok (by omega) (by omega)⟩
  · rename_i q
    have hf := fx_rng (W := W) (n := V 5) (w := u) hst.1
    have hl := hY (fx W (V 5) u) (by omega) (by omega)
    obtain ⟨h1, h2⟩ := h
    refine ⟨⟨?_, ?_⟩, by simp [spV, rset], ⟨?_, ?_, Or.inr ⟨fx W (V 5) u, by omega, by omega, ?_⟩⟩⟩ <;> simp [spV, rset] <;> omega
theorem tpc_ok {t : List Int} {W : Int → Int} {Y : Int → List Int} {p : Int} {V WN : Int → Int} (h : vok t V) (ht : t.length ≤ 320) (hY : ∀ k : Int, 0 ≤ k → k < 8 → (Y k).length ≤ 60) : vok t (tpc t W Y p V WN).2.1 ∧ (tpc t W Y p V WN).2.1 5 = V 5 ∧ ((tpc t W Y p V WN).1 = true → pok p (tpc t W Y p V WN).2.1) := by
  have h1 := pbV_ok h
  have hs : pbV t V 5 = V 5 := by simp [pbV, rset]
  unfold tpc
  split
  · obtain ⟨a1, a2, a3⟩ := bkV_ok (p := p) h1 ht
    exact ⟨a1, a2.trans hs, fun q => a3 (of_decide_eq_true q)⟩
  · split
    · obtain ⟨a1, a2, a3⟩ := qkV_ok (p := p) h1 ht
      exact ⟨a1, a2.trans hs, fun q => a3 (of_decide_eq_true q)⟩
    · split
      · obtain ⟨a1, a2, a3⟩ := dgV_ok (p := p) h1 ht
        exact ⟨a1, a2.trans hs, fun _ => a3⟩
      · obtain ⟨a1, a2⟩ := wdV_ok h1
        split
        · exact ⟨a1, a2.trans hs, fun q => Bool.noConfusion q⟩
        · obtain ⟨b1, b2, b3⟩ := tmV_ok (W := W) (p := p) (u := (tkw t (pbV t V 6)).1) a1 hY
          exact ⟨b1, b2.trans (a2.trans hs), fun _ => b3⟩
theorem tpc_b {t : List Int} {W : Int → Int} {Y : Int → List Int} {p : Int} {V WN : Int → Int} (h : bok V) : bok (tpc t W Y p V WN).2.1 := by
  have e : ∀ V' : Int → Int, V' 12 = V 12 → V' 13 = V 13 → bok V' := fun V' e1 e2 => by unfold bok; rw [e1, e2]; exact h
  unfold tpc
  split
  · show bok (bkV t p (pbV t V))
    unfold bkV
    split
    · exact e _ (by simp [spV, pbV, rset]) (by simp [spV, pbV, rset])
    · exact e _ (by simp [spV, pbV, rset]) (by simp [spV, pbV, rset])
  · split
    · show bok (qkV t p (pbV t V))
      unfold qkV
      split
      · exact e _ (by simp [spV, pbV, rset]) (by simp [spV, pbV, rset])
      · exact e _ (by simp [spV, pbV, rset]) (by simp [spV, pbV, rset])
    · split
      · exact e _ (by simp [dgV, spV, pbV, rset]) (by simp [dgV, spV, pbV, rset])
      · split
        · exact e _ (by simp [wdV, pbV, rset]) (by simp [wdV, pbV, rset])
        · show bok (tmV W Y p _ (wdV t (pbV t V)))
          unfold tmV
          split
          · exact e _ (by simp [wdV, spV, pbV, rset]) (by simp [wdV, spV, pbV, rset])
          · exact e _ (by simp [wdV, spV, pbV, rset]) (by simp [wdV, spV, pbV, rset])
theorem apc_ok {u : List Int} {b e : Int} {v : List Int} {V : Int → Int} (hb : 0 ≤ V 12 ∧ V 12 ≤ 1) (hc : 0 ≤ V 13 ∧ V 13 ≤ 1) : (∀ j : Int, j ≠ 12 → j ≠ 13 → (apc u b e (v, V)).2 j = V j) ∧ (0 ≤ (apc u b e (v, V)).2 12 ∧ (apc u b e (v, V)).2 12 ≤ 1) ∧ (0 ≤ (apc u b e (v, V)).2 13 ∧ (apc u b e (v, V)).2 13 ≤ 1) :=
  it_inv (aps u) (fun _ s => (∀ j : Int, j ≠ 12 → j ≠ 13 → s.2 j = V j) ∧ (0 ≤ s.2 12 ∧ s.2 12 ≤ 1) ∧ (0 ≤ s.2 13 ∧ s.2 13 ≤ 1)) (fun j s hp => ⟨fun q q1 q2 => (avV_o q1 q2).trans (hp.1 q q1 q2), (avV_b hp.2.2).1, (avV_b hp.2.2).2⟩) (e - b).toNat b (v, V) ⟨fun _ _ _ => rfl, hb, hc⟩
/-- a value is taken, piece by piece: the value, the numbers, the warnings -/
abbrev tvT : Type := List Int × (Int → Int) × (Int → Int)
def tvA (t : List Int) (W : Int → Int) (Y : Int → List Int) (p : Int) (s : tvT) : vst := apc (ptx t Y p (tpc t W Y p s.2.1 s.2.2).2.1) ((tpc t W Y p s.2.1 s.2.2).2.1 9) ((tpc t W Y p s.2.1 s.2.2).2.1 10) (s.1, (tpc t W Y p s.2.1 s.2.2).2.1)
def tv1 (t : List Int) (W : Int → Int) (Y : Int → List Int) (p : Int) (s : tvT) : Bool × Bool × tvT := if (tpc t W Y p s.2.1 s.2.2).1 = true then (true, (tsk t 35 ((tvA t W Y p s).2 6)).1, ((tvA t W Y p s).1, sgV t 35 (tvA t W Y p s).2, (tpc t W Y p s.2.1 s.2.2).2.2)) else (false, false, (s.1, (tpc t W Y p s.2.1 s.2.2).2.1, (tpc t W Y p s.2.1 s.2.2).2.2))
def tvl (t : List Int) (W : Int → Int) (Y : Int → List Int) (p : Int) : Nat → Bool → tvT → Bool × tvT
  | 0, _, s => (true, s)
  | m + 1, b, s => if b = true then (if (tv1 t W Y p s).1 = true then tvl t W Y p m (tv1 t W Y p s).2.1 (tv1 t W Y p s).2.2 else (false, (tv1 t W Y p s).2.2)) else (true, s)
def tvf (t : List Int) (W : Int → Int) (Y : Int → List Int) (p : Int) (V WN : Int → Int) : Bool × tvT := tvl t W Y p ((320 : Int) - 0).toNat true ([], rset (rset V 12 0) 13 0, WN)
def tvW (q : Bool × tvT) : Int → Int := if q.1 = true ∧ q.2.2.1 13 ≠ 0 then inc q.2.2.2 3 else q.2.2.2
theorem tvl_go {t : List Int} {W : Int → Int} {Y : Int → List Int} {p i : Int} {s s' : tvT} {b' : Bool} (hi : i < 320) (e : tv1 t W Y p s = (true, b', s')) : tvl t W Y p ((320 : Int) - i).toNat true s = tvl t W Y p ((320 : Int) - (i + 1)).toNat b' s' := by
  rw [show ((320 : Int) - i).toNat = ((320 : Int) - (i + 1)).toNat + 1 by omega]
  show (if true = true then (if (tv1 t W Y p s).1 = true then tvl t W Y p _ (tv1 t W Y p s).2.1 (tv1 t W Y p s).2.2 else (false, (tv1 t W Y p s).2.2)) else (true, s)) = _
  rw [e, if_pos rfl, if_pos rfl]
theorem tvl_no {t : List Int} {W : Int → Int} {Y : Int → List Int} {p i : Int} {s s' : tvT} {b' : Bool} (hi : i < 320) (e : tv1 t W Y p s = (false, b', s')) : tvl t W Y p ((320 : Int) - i).toNat true s = (false, s') := by
  rw [show ((320 : Int) - i).toNat = ((320 : Int) - (i + 1)).toNat + 1 by omega]
  show (if true = true then (if (tv1 t W Y p s).1 = true then tvl t W Y p _ (tv1 t W Y p s).2.1 (tv1 t W Y p s).2.2 else (false, (tv1 t W Y p s).2.2)) else (true, s)) = _
  rw [e, if_pos rfl, if_neg (fun q => Bool.noConfusion q)]
theorem tvl_st {t : List Int} {W : Int → Int} {Y : Int → List Int} {p : Int} {s : tvT} : ∀ m : Nat, tvl t W Y p m false s = (true, s)
  | 0 => rfl
  | _ + 1 => rfl
theorem tvl_e {t : List Int} {W : Int → Int} {Y : Int → List Int} {p i : Int} {s : tvT} {b : Bool} (hi : 320 ≤ i) : tvl t W Y p ((320 : Int) - i).toNat b s = (true, s) := by
  rw [show ((320 : Int) - i).toNat = 0 by omega]
  rfl
set_option maxHeartbeats 4000000 in
set_option maxRecDepth 100000 in
theorem c_Reader_takeValue (l : Launch) (D : va_G) {sh : s_S} {M : s_M} {sz p s w : Int} {V : Int → Int} {t : List Int} {W : Int → Int} {Y : Int → List Int} {v : List Int} (h : rdw sh M p s w V t W Y v) (hpl : 0 ≤ V 6 ∧ V 6 ≤ t.length) (hst : 0 ≤ V 5 ∧ V 5 ≤ 8) {WN : Int → Int} (hWN : M w = WN) : Sp l D y_Reader_takeValue prog_8_method_12_code 3 (some .boolean) 5 0 0 [vr p] sh M sz (fun v' sh' M' sz' => v' = some (vi (s_b (tvf t W Y p V WN).1)) ∧ sh' = sh ∧ sz' = sz ∧ rdw sh M' p s w (tvf t W Y p V WN).2.2.1 t W Y (tvf t W Y p V WN).2.1 ∧ M' w = tvW (tvf t W Y p V WN) ∧ fr (fun z => z = p ∨ z = w ∨ z = p + 21 ∨ z = p + 22) M M') := by
  have hp0 := h.2.2.2.2.2.2.1
  have hch := h.2.2.2.2.2.2.2.1.rng
  have hln := h.2.2.2.2.2.2.2.1.len
  have hY : ∀ k : Int, 0 ≤ k → k < 8 → (Y k).length ≤ 60 := fun k k0 k1 => (h.2.2.2.2.2.2.2.2.2.2.1 k k0 k1).2.len.1
  refine Sp.ofGo (own := "CiteForge$Reader") (nm := "takeValue") (by decide) rfl rfl (Nat.le_of_ble_eq_true rfl) (lv := [(0, vr p)]) rfl ?_
  intro g X
  refine go_aload_n X d_Reader_takeValue_0 rfl rfl ?_
  refine go_get (v := vr (p + 21)) X f_Reader_39 h.1 rfl d_Reader_takeValue_1 (s_vref (show M p 11 = p + 21 from (congrFun h.2.2.2.2.1 11).trans (h.2.2.2.2.2.1.2.2.2.2.2)) (by omega)) ?_
  refine go_cV (st2 := []) (r := []) X k_Reader_58 (k_Text_reset l D h.2.2.2.2.2.2.2.2.2.2.2) h.2.2.2.2.2.2.2.2.2.2.2.1.1 rfl rfl (by omega) (Nat.le_of_ble_eq_true rfl) d_Reader_takeValue_4 (by omega) (by omega) (fun v' sh' M1 sz' hpp => ?_)
  obtain ⟨e1, e2, e3, tv2, fr3⟩ := hpp
  subst e1
  rw [e2, e3]
  clear e2 e3
  show Go g 0 0 sh M1 sz 7 [(0, vr p)] []
  have rd4 : rdw sh M1 p s w (V) t W Y [] := h.val tv2 fr3
  have rw6 : M1 w = WN := (fr3 w (by show ¬ (w = p + 21 ∨ w = p + 21 + 1); omega)).trans hWN
  have fr5 : fr (fun z => z = p ∨ z = w ∨ z = p + 21 ∨ z = p + 22) M M1 := fun z hz => by
    have hz1 : ¬ (z = p ∨ z = w ∨ z = p + 21 ∨ z = p + 22) := hz
    exact (fr3 z (by show ¬ (z = p + 21 ∨ z = p + 21 + 1); omega))
  refine go_aload_n X d_Reader_takeValue_7 rfl rfl ?_
  refine go_iconst (v := 0) X d_Reader_takeValue_8 ?_
  refine go_put (x := 0) (v := vi 0) X f_Reader_124 rd4.1 rfl d_Reader_takeValue_9 rfl rfl rfl ?_
  generalize hM8 : m_s M1 p 12 0 = M7
  have rd9 : rdw sh M7 p s w (rset V 12 0) t W Y ([]) := by rw [← hM8]; exact rd4.put (by decide)
  have fr10 : fr (fun z => z = p ∨ z = w ∨ z = p + 21 ∨ z = p + 22) M M7 := fun z hz => by
    have hz1 : ¬ (z = p ∨ z = w ∨ z = p + 21 ∨ z = p + 22) := hz
    rw [← hM8]; exact (m_s_a (by omega)).trans (fr5 z hz)
  have rw11 : M7 w = WN := by rw [← hM8]; exact (m_s_a (by omega)).trans rw6
  refine go_aload_n X d_Reader_takeValue_12 rfl rfl ?_
  refine go_iconst (v := 0) X d_Reader_takeValue_13 ?_
  refine go_put (x := 0) (v := vi 0) X f_Reader_128 rd4.1 rfl d_Reader_takeValue_14 rfl rfl rfl ?_
  generalize hM13 : m_s M7 p 13 0 = M12
  have rd14 : rdw sh M12 p s w (rset (rset V 12 0) 13 0) t W Y ([]) := by rw [← hM13]; exact rd9.put (by decide)
  have fr15 : fr (fun z => z = p ∨ z = w ∨ z = p + 21 ∨ z = p + 22) M M12 := fun z hz => by
    have hz1 : ¬ (z = p ∨ z = w ∨ z = p + 21 ∨ z = p + 22) := hz
    rw [← hM13]; exact (m_s_a (by omega)).trans (fr10 z hz)
  have rw16 : M12 w = WN := by rw [← hM13]; exact (m_s_a (by omega)).trans rw11
  refine go_iconst (v := 1) X d_Reader_takeValue_17 ?_
  refine go_istore_n (lv' := [(1, vi 1), (0, vr p)]) X d_Reader_takeValue_18 rfl (by decide) rfl ?_
  refine go_iconst (v := 0) X d_Reader_takeValue_19 ?_
  refine go_istore_n (lv' := [(2, vi 0), (1, vi 1), (0, vr p)]) X d_Reader_takeValue_20 rfl (by decide) rfl ?_
  have hok0 : vok t (rset (rset V 12 0) 13 0) := by
    refine ⟨?_, ?_⟩ <;> simp [rset] <;> omega
  have hbk0 : bok (rset (rset V 12 0) 13 0) := by
    refine ⟨?_, ?_⟩ <;> simp [rset]
  have lp : ∀ (fuel : Nat) (i : Int) (b : Bool) (v1 : List Int) (V1 : Int → Int) (WN1 : Int → Int) (Mx : s_M), (0 ≤ i ∧ i ≤ 320) → (rdw sh Mx p s w V1 t W Y v1) → (Mx w = WN1) → (vok t V1) → (bok V1) → (fr (fun z => z = p ∨ z = w ∨ z = p + 21 ∨ z = p + 22) M Mx) → (tvl t W Y p ((320 : Int) - i).toNat b (v1, V1, WN1) = tvf t W Y p V WN) → ((320 : Int) - i).toNat < fuel → Go g 0 0 sh Mx sz 21 [(0, vr p), (1, vi (s_b b)), (2, vi i)] [] := by
    intro fuel
    induction fuel with
    | zero => intro i b v1 V1 WN1 Mx hi hrd hwn hok hbk hfr hp hm_lp; exact absurd hm_lp (Nat.not_lt_zero _)
    | succ fuel ih_lp =>
      intro i b v1 V1 WN1 Mx hi hrd hwn hok hbk hfr hp hm_lp
      refine go_iload_n X d_Reader_takeValue_21 rfl rfl ?_
      refine go_sipush (v := 320) X d_Reader_takeValue_22 (by decide) ?_
      refine go_icmp_ge (tgt := 58) X d_Reader_takeValue_25 rfl (by omega) (by omega) (fun hq17 => ?_) (fun hq17 => ?_)
      · skip
        refine go_aload_n X d_Reader_takeValue_58 rfl rfl ?_
        refine go_get (v := vi (V1 13)) X f_Reader_128 hrd.1 rfl d_Reader_takeValue_59 (congrArg (s_v .boolean) (show Mx p 13 = V1 13 from (congrFun hrd.2.2.2.2.1 13).trans rfl)) ?_
        have ok4 := hbk.2
        refine go_if_eq (tgt := 75) X d_Reader_takeValue_62 rfl (by omega) (fun hq18 => ?_) (fun hq18 => ?_)
        · skip
          refine go_iconst (v := 1) X d_Reader_takeValue_75 ?_
          refine go_iret X d_Reader_takeValue_76 rfl ?_ (by omega) (by omega) ?_
          · rfl
          have hT : tvf t W Y p V WN = (true, v1, V1, WN1) := hp.symm.trans (tvl_e (by omega))
          rw [hT]
          rw [show tvW (true, v1, V1, WN1) = WN1 from if_neg (fun q => q.2 hq18)]
          exact ⟨rfl, rfl, rfl, hrd, hwn, hfr⟩
        · skip
          refine go_aload_n X d_Reader_takeValue_65 rfl rfl ?_
          refine go_get (v := vr w) X f_Reader_15 hrd.1 rfl d_Reader_takeValue_66 (s_varr (show Mx p 1 = w from (congrFun hrd.2.2.2.2.1 1).trans (hrd.2.2.2.2.2.1.2.1)) (by omega)) ?_
          refine go_iconst (v := 3) X d_Reader_takeValue_69 ?_
          refine go_dup2 X d_Reader_takeValue_70 rfl rfl ?_
          refine go_iald X hrd.2.2.2.1 (by omega) (by omega) d_Reader_takeValue_71 ?_
          refine go_top (v' := vi (WN1 3)) X (by rw [hwn]) ?_
          refine go_iconst (v := 1) X d_Reader_takeValue_72 ?_
          refine go_iadd X d_Reader_takeValue_73 ?_
          refine go_iast X hrd.2.2.2.1 (by omega) (by omega) d_Reader_takeValue_74 ?_
          generalize hM20 : m_s Mx w 3 ((WN1 3) + 1) = M19
          have rd21 : rdw sh M19 p s w (V1) t W Y v1 := by rw [← hM20]; exact hrd.wrn
          have rw23 : M19 w = inc WN1 3 := by rw [← hM20]; exact row_inc hwn
          have fr22 : fr (fun z => z = p ∨ z = w ∨ z = p + 21 ∨ z = p + 22) M M19 := fun z hz => by
            have hz1 : ¬ (z = p ∨ z = w ∨ z = p + 21 ∨ z = p + 22) := hz
            rw [← hM20]; exact (m_s_a (by omega)).trans (hfr z hz)
          refine go_iconst (v := 1) X d_Reader_takeValue_75 ?_
          refine go_iret X d_Reader_takeValue_76 rfl ?_ (by omega) (by omega) ?_
          · rfl
          have hT : tvf t W Y p V WN = (true, v1, V1, WN1) := hp.symm.trans (tvl_e (by omega))
          rw [hT]
          rw [show tvW (true, v1, V1, WN1) = inc WN1 3 from if_pos ⟨rfl, hq18⟩]
          exact ⟨rfl, rfl, rfl, rd21, rw23, fr22⟩
      · skip
        refine go_iload_n X d_Reader_takeValue_28 rfl rfl ?_
        refine go_ifb_eq (tgt := 58) X d_Reader_takeValue_29 rfl (fun hq24 => ?_) (fun hq24 => ?_)
        · skip
          refine go_aload_n X d_Reader_takeValue_58 rfl rfl ?_
          refine go_get (v := vi (V1 13)) X f_Reader_128 hrd.1 rfl d_Reader_takeValue_59 (congrArg (s_v .boolean) (show Mx p 13 = V1 13 from (congrFun hrd.2.2.2.2.1 13).trans rfl)) ?_
          have ok4 := hbk.2
          refine go_if_eq (tgt := 75) X d_Reader_takeValue_62 rfl (by omega) (fun hq25 => ?_) (fun hq25 => ?_)
          · skip
            refine go_iconst (v := 1) X d_Reader_takeValue_75 ?_
            refine go_iret X d_Reader_takeValue_76 rfl ?_ (by omega) (by omega) ?_
            · rfl
            have hT : tvf t W Y p V WN = (true, v1, V1, WN1) := by rw [hq24] at hp; exact hp.symm.trans (tvl_st _)
            rw [hT]
            rw [show tvW (true, v1, V1, WN1) = WN1 from if_neg (fun q => q.2 hq25)]
            exact ⟨rfl, rfl, rfl, hrd, hwn, hfr⟩
          · skip
            refine go_aload_n X d_Reader_takeValue_65 rfl rfl ?_
            refine go_get (v := vr w) X f_Reader_15 hrd.1 rfl d_Reader_takeValue_66 (s_varr (show Mx p 1 = w from (congrFun hrd.2.2.2.2.1 1).trans (hrd.2.2.2.2.2.1.2.1)) (by omega)) ?_
            refine go_iconst (v := 3) X d_Reader_takeValue_69 ?_
            refine go_dup2 X d_Reader_takeValue_70 rfl rfl ?_
            refine go_iald X hrd.2.2.2.1 (by omega) (by omega) d_Reader_takeValue_71 ?_
            refine go_top (v' := vi (WN1 3)) X (by rw [hwn]) ?_
            refine go_iconst (v := 1) X d_Reader_takeValue_72 ?_
            refine go_iadd X d_Reader_takeValue_73 ?_
            refine go_iast X hrd.2.2.2.1 (by omega) (by omega) d_Reader_takeValue_74 ?_
            generalize hM27 : m_s Mx w 3 ((WN1 3) + 1) = M26
            have rd28 : rdw sh M26 p s w (V1) t W Y v1 := by rw [← hM27]; exact hrd.wrn
            have rw30 : M26 w = inc WN1 3 := by rw [← hM27]; exact row_inc hwn
            have fr29 : fr (fun z => z = p ∨ z = w ∨ z = p + 21 ∨ z = p + 22) M M26 := fun z hz => by
              have hz1 : ¬ (z = p ∨ z = w ∨ z = p + 21 ∨ z = p + 22) := hz
              rw [← hM27]; exact (m_s_a (by omega)).trans (hfr z hz)
            refine go_iconst (v := 1) X d_Reader_takeValue_75 ?_
            refine go_iret X d_Reader_takeValue_76 rfl ?_ (by omega) (by omega) ?_
            · rfl
            have hT : tvf t W Y p V WN = (true, v1, V1, WN1) := by rw [hq24] at hp; exact hp.symm.trans (tvl_st _)
            rw [hT]
            rw [show tvW (true, v1, V1, WN1) = inc WN1 3 from if_pos ⟨rfl, hq25⟩]
            exact ⟨rfl, rfl, rfl, rd28, rw30, fr29⟩
        · skip
          refine go_aload_n X d_Reader_takeValue_32 rfl rfl ?_
          refine go_cV (st2 := []) (r := []) X k_Reader_131 (c_Reader_takePiece l D hrd hok.1 hok.2 hwn) hrd.1 rfl rfl (by omega) (Nat.le_of_ble_eq_true rfl) d_Reader_takeValue_33 (by omega) (by omega) (fun v' sh' M31 sz' hpp => ?_)
          obtain ⟨e1, e2, e3, rd36, rw35, fr33⟩ := hpp
          subst e1
          rw [e2, e3]
          clear e2 e3
          show Go g 0 0 sh M31 sz 36 [(0, vr p), (1, vi (s_b b)), (2, vi i)] [vi (s_b (tpc t W Y p V1 WN1).1)]
          have rd32 : rdw sh M31 p s w ((tpc t W Y p V1 WN1).2.1) t W Y v1 := rd36
          clear rd36
          have fr34 : fr (fun z => z = p ∨ z = w ∨ z = p + 21 ∨ z = p + 22) M M31 := fun z hz => by
            have hz1 : ¬ (z = p ∨ z = w ∨ z = p + 21 ∨ z = p + 22) := hz
            exact (fr33 z (by show ¬ (z = p ∨ z = w); omega)).trans (hfr z hz)
          refine go_ifb_ne (tgt := 41) X d_Reader_takeValue_36 rfl (fun hq37 => ?_) (fun hq37 => ?_)
          · skip
            refine go_aload_n X d_Reader_takeValue_41 rfl rfl ?_
            obtain ⟨hvk, hvs, hpk9⟩ := tpc_ok (W := W) (p := p) (WN := WN1) hok hln.1 hY
            have hpk := hpk9 hq37
            have hvb := tpc_b (t := t) (W := W) (Y := Y) (p := p) (WN := WN1) hbk
            obtain ⟨Kg, hu9, hg1, hg2⟩ := rd32.pcx hpk
            refine go_cV (st2 := []) (r := []) X k_Reader_134 (c_Reader_addPiece l D rd32 (g_ := (tpc t W Y p V1 WN1).2.1 8) (b := (tpc t W Y p V1 WN1).2.1 9) (e := (tpc t W Y p V1 WN1).2.1 10) rfl rfl rfl hu9 ⟨hg1, hg2⟩ hpk.1 hpk.2.1 hvb.1 hvb.2) rd32.1 rfl rfl (by omega) (Nat.le_of_ble_eq_true rfl) d_Reader_takeValue_42 (by omega) (by omega) (fun v' sh' M38 sz' hpp => ?_)
            obtain ⟨e1, e2, e3, rd43, fr40⟩ := hpp
            subst e1
            rw [e2, e3]
            clear e2 e3
            show Go g 0 0 sh M38 sz 45 [(0, vr p), (1, vi (s_b b)), (2, vi i)] []
            have rd39 : rdw sh M38 p s w ((tvA t W Y p (v1, V1, WN1)).2) t W Y ((tvA t W Y p (v1, V1, WN1)).1) := rd43
            clear rd43
            have rw42 : M38 w = (tpc t W Y p V1 WN1).2.2 := (fr40 w (by show ¬ (w = p ∨ w = p + 21 ∨ w = p + 22); omega)).trans rw35
            have fr41 : fr (fun z => z = p ∨ z = w ∨ z = p + 21 ∨ z = p + 22) M M38 := fun z hz => by
              have hz1 : ¬ (z = p ∨ z = w ∨ z = p + 21 ∨ z = p + 22) := hz
              exact (fr40 z (by show ¬ (z = p ∨ z = p + 21 ∨ z = p + 22); omega)).trans (fr34 z hz)
            obtain ⟨ha1, ha2, ha3⟩ := apc_ok (u := ptx t Y p (tpc t W Y p V1 WN1).2.1) (b := (tpc t W Y p V1 WN1).2.1 9) (e := (tpc t W Y p V1 WN1).2.1 10) (v := v1) hvb.1 hvb.2
            have hva : vok t (tvA t W Y p (v1, V1, WN1)).2 := ⟨by rw [show (tvA t W Y p (v1, V1, WN1)).2 6 = (tpc t W Y p V1 WN1).2.1 6 from ha1 6 (by decide) (by decide)]; exact hvk.1, by rw [show (tvA t W Y p (v1, V1, WN1)).2 5 = (tpc t W Y p V1 WN1).2.1 5 from ha1 5 (by decide) (by decide)]; exact hvk.2⟩
            refine go_aload_n X d_Reader_takeValue_45 rfl rfl ?_
            refine go_bipush (v := 35) X d_Reader_takeValue_46 (by decide) ?_
            refine go_cV (st2 := []) (r := []) X k_Reader_84 (c_Reader_takeSign l D rd39 hva.1 (c := 35) (by decide)) rd39.1 rfl rfl (by omega) (Nat.le_of_ble_eq_true rfl) d_Reader_takeValue_48 (by omega) (by omega) (fun v' sh' M44 sz' hpp => ?_)
            obtain ⟨e1, e2, e3, rd49, fr46⟩ := hpp
            subst e1
            rw [e2, e3]
            clear e2 e3
            show Go g 0 0 sh M44 sz 51 [(0, vr p), (1, vi (s_b b)), (2, vi i)] [vi (s_b (tsk t 35 ((tvA t W Y p (v1, V1, WN1)).2 6)).1)]
            have rd45 : rdw sh M44 p s w (sgV t 35 (tvA t W Y p (v1, V1, WN1)).2) t W Y ((tvA t W Y p (v1, V1, WN1)).1) := rd49
            clear rd49
            have rw48 : M44 w = (tpc t W Y p V1 WN1).2.2 := (fr46 w (by show ¬ (w = p); omega)).trans rw42
            have fr47 : fr (fun z => z = p ∨ z = w ∨ z = p + 21 ∨ z = p + 22) M M44 := fun z hz => by
              have hz1 : ¬ (z = p ∨ z = w ∨ z = p + 21 ∨ z = p + 22) := hz
              exact (fr46 z (by show ¬ (z = p); omega)).trans (fr41 z hz)
            have hts := tsk_rng (c := 35) hva.1 (by decide)
            have hok9 : vok t (sgV t 35 (tvA t W Y p (v1, V1, WN1)).2) := plV_ok hva ⟨by have := hva.1; omega, hts.2⟩
            have hbk9 : bok (sgV t 35 (tvA t W Y p (v1, V1, WN1)).2) := ⟨by simp [sgV, rset]; exact ha2, by simp [sgV, rset]; exact ha3⟩
            have hb9 : b = true := hq24
            have hp9 := hp
            rw [hb9] at hp9
            have hn := (tvl_go (t := t) (W := W) (Y := Y) (p := p) (i := i) (s := (v1, V1, WN1)) (s' := ((tvA t W Y p (v1, V1, WN1)).1, sgV t 35 (tvA t W Y p (v1, V1, WN1)).2, (tpc t W Y p V1 WN1).2.2)) (b' := (tsk t 35 ((tvA t W Y p (v1, V1, WN1)).2 6)).1) (by omega) (if_pos hq37)).symm.trans hp9
            refine go_istore_n (lv' := [(1, vi (s_b (tsk t 35 ((tvA t W Y p (v1, V1, WN1)).2 6)).1)), (0, vr p), (2, vi i)]) X d_Reader_takeValue_51 rfl (by decide) rfl ?_
            refine go_iinc (v := 1) (x := i) (lv' := [(2, vi (i + 1)), (1, vi (s_b (tsk t 35 ((tvA t W Y p (v1, V1, WN1)).2 6)).1)), (0, vr p)]) X d_Reader_takeValue_52 rfl (by decide) rfl ?_
            refine go_goto (tgt := 21) X d_Reader_takeValue_55 rfl ?_
            refine go_lv (lv' := [(0, vr p), (1, vi (s_b (tsk t 35 ((tvA t W Y p (v1, V1, WN1)).2 6)).1)), (2, vi (i + 1))]) X [2, 1, 0] rfl ?_
            exact ih_lp (i + 1) ((tsk t 35 ((tvA t W Y p (v1, V1, WN1)).2 6)).1) ((tvA t W Y p (v1, V1, WN1)).1) (sgV t 35 (tvA t W Y p (v1, V1, WN1)).2) ((tpc t W Y p V1 WN1).2.2) M44 (by omega) rd45 rw48 hok9 hbk9 fr47 hn (by omega)
          · skip
            refine go_iconst (v := 0) X d_Reader_takeValue_39 ?_
            refine go_iret X d_Reader_takeValue_40 rfl ?_ (by omega) (by omega) ?_
            · rfl
            have hb9 : b = true := hq24
            have hT : tvf t W Y p V WN = (false, v1, (tpc t W Y p V1 WN1).2.1, (tpc t W Y p V1 WN1).2.2) := by rw [hb9] at hp; exact hp.symm.trans (tvl_no (b' := false) (by omega) (if_neg (by show ¬ (tpc t W Y p V1 WN1).1 = true; rw [hq37]; decide)))
            rw [hT]
            rw [show tvW (false, v1, (tpc t W Y p V1 WN1).2.1, (tpc t W Y p V1 WN1).2.2) = (tpc t W Y p V1 WN1).2.2 from if_neg (fun q => Bool.noConfusion q.1)]
            exact ⟨rfl, rfl, rfl, rd32, rw35, fr34⟩
  refine go_lv (lv' := [(0, vr p), (1, vi 1), (2, vi 0)]) X [2, 1, 0] rfl ?_
  exact lp _ 0 true ([]) (rset (rset V 12 0) 13 0) WN M12 (by omega) rd14 rw16 hok0 hbk0 fr15 rfl (Nat.lt_succ_self _)
