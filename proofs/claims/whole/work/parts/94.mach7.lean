abbrev rfT : Type := Int → rnT → Bool × rnT
def stn (s : rnT) : rnT := (sTN s.1, s.2)
def dni (s : rnT) : rnT := (s.1, s.2.1, s.2.2.1, s.2.2.2.1 + 1, s.2.2.2.2)
/-- while: the test a, the body b -/
def whl (F : rfT) (a b : Int) : Nat → rnT → Bool × rnT
  | 0, s => (false, s)
  | m + 1, s => if (F a s).1 = true then (if 0 < vN (F a s).2.1 then (if (F b (stn (F a s).2)).1 = true then whl F a b m (F b (stn (F a s).2)).2 else (false, (F b (stn (F a s).2)).2)) else (true, stn (F a s).2)) else (false, (F a s).2)
def rin (F : rfT) (op x : Int) (s : rnT) : Bool × rnT := if op = 14 then whl F (x / 6 % 6) (x % 6) ((1000000 : Int) - 0).toNat s else if op = 13 then (if 0 < vN s.1 then F (x / 6 % 6) (stn s) else F (x % 6) (stn s)) else F (x % 6) s
def stp (hd ns : Int) (F : rfT) (op x : Int) (s : rnT) : Bool × rnT := if op < 13 then (true, wkS hd ns op x s) else if 22 < op then (true, wkT op x s) else if 15 < op then (true, wkE hd op x s) else rin F op x s
def rlp (hd ns : Int) (O Q : Int → Int) (F : rfT) : Nat → Int → rnT → Bool × rnT
  | 0, _, s => (true, s)
  | m + 1, i, s => if 400 ≤ s.2.2.2.1 then (false, s) else if (stp hd ns F (O i) (Q i) (dni s)).1 = true then rlp hd ns O Q F m (i + 1) (stp hd ns F (O i) (Q i) (dni s)).2 else (false, (stp hd ns F (O i) (Q i) (dni s)).2)
/-- a function is run, with d levels left -/
def rf (hd ns : Int) (O Q Z : Int → Int) : Nat → rfT
  | 0, _, s => (false, s)
  | d + 1, f, s => rlp hd ns O Q (rf hd ns O Q Z d) (Z f).toNat (f * 24) s
def rok (s : rnT) : Prop := (0 ≤ s.2.2.2.1 ∧ s.2.2.2.1 ≤ 400) ∧ s.2.2.1.1 + 200 * (400 - s.2.2.2.1) ≤ 2147000000
def grw (s s' : rnT) : Prop := s.2.2.1.1 ≤ s'.2.2.1.1 ∧ rok s'
theorem grw.refl {s : rnT} (h : rok s) : grw s s := ⟨Int.le_refl _, h⟩
theorem grw.trans {a b c : rnT} (h1 : grw a b) (h2 : grw b c) : grw a c := ⟨Int.le_trans h1.1 h2.1, h2.2⟩
theorem grw.stn {a b : rnT} (h : grw a b) : grw a (stn b) := h
theorem wkT_pg (op x : Int) (s : rnT) : (wkT op x s).2.2.1 = s.2.2.1 ∧ (wkT op x s).2.2.2.1 = s.2.2.2.1 := by
  unfold wkT
  split
  · exact ⟨rfl, rfl⟩
  · split
    · unfold wk24
      split <;> exact ⟨rfl, rfl⟩
    · split
      · exact ⟨rfl, rfl⟩
      · split
        · exact ⟨rfl, rfl⟩
        · split
          · exact ⟨rfl, rfl⟩
          · split <;> exact ⟨rfl, rfl⟩
theorem wkE_np (hd op x : Int) (s : rnT) : s.2.2.1.1 ≤ (wkE hd op x s).2.2.1.1 ∧ (wkE hd op x s).2.2.1.1 ≤ s.2.2.1.1 + 180 ∧ (wkE hd op x s).2.2.2.1 = s.2.2.2.1 := by
  have h0 : s.2.2.1.1 ≤ s.2.2.1.1 ∧ s.2.2.1.1 ≤ s.2.2.1.1 + 180 ∧ s.2.2.2.1 = s.2.2.2.1 := ⟨by omega, by omega, rfl⟩
  unfold wkE
  split
  · exact h0
  · split
    · exact h0
    · split
      · exact h0
      · split
        · exact h0
        · split
          · exact h0
          · split
            · have h1 := pob_ge 180 (s.2.2.1.1, poa s.2.2.1.2.1 (vT s.1), s.2.2.1.2.2)
              have h2 := pob_le 180 (s.2.2.1.1, poa s.2.2.1.2.1 (vT s.1), s.2.2.1.2.2)
              exact ⟨h1, h2, rfl⟩
            · show s.2.2.1.1 ≤ (eol s.2.2.1).1 ∧ (eol s.2.2.1).1 ≤ s.2.2.1.1 + 180 ∧ s.2.2.2.1 = s.2.2.2.1
              unfold eol
              split
              · exact ⟨by show s.2.2.1.1 ≤ s.2.2.1.1 + 1; omega, by show s.2.2.1.1 + 1 ≤ s.2.2.1.1 + 180; omega, rfl⟩
              · exact h0
theorem whl_s (F : rfT) (a b : Int) (m : Nat) (s : rnT) : whl F a b (m + 1) s = if (F a s).1 = true then (if 0 < vN (F a s).2.1 then (if (F b (stn (F a s).2)).1 = true then whl F a b m (F b (stn (F a s).2)).2 else (false, (F b (stn (F a s).2)).2)) else (true, stn (F a s).2)) else (false, (F a s).2) := rfl
theorem whl_g {F : rfT} {a b : Int} (hg : ∀ f s, rok s → grw s (F f s).2) : ∀ (m : Nat) (s : rnT), rok s → grw s (whl F a b m s).2
  | 0, s, h => grw.refl h
  | m + 1, s, h => by
    have h1 := hg a s h
    have h2 := hg b (stn (F a s).2) h1.2
    rw [whl_s]
    split
    · split
      · split
        · exact h1.trans (h2.trans (whl_g hg m _ h2.2))
        · exact h1.trans h2
      · exact h1
    · exact h1
theorem whl_g1 {F : rfT} {a b : Int} (hg : ∀ f s, rok s → grw s (F f s).2) (m : Nat) (s : rnT) (h : rok s) : grw (F a s).2 (whl F a b (m + 1) s).2 := by
  have h1 := hg a s h
  have h2 := hg b (stn (F a s).2) h1.2
  rw [whl_s]
  split
  · split
    · split
      · exact (show grw (F a s).2 _ from h2).trans (whl_g hg m _ h2.2)
      · exact h2
    · exact grw.refl h1.2
  · exact grw.refl h1.2
theorem whl_g2 {F : rfT} {a b : Int} (hg : ∀ f s, rok s → grw s (F f s).2) (m : Nat) (s : rnT) (h : rok s) (e1 : (F a s).1 = true) (e2 : 0 < vN (F a s).2.1) : grw (F b (stn (F a s).2)).2 (whl F a b (m + 1) s).2 := by
  have h1 := hg a s h
  have h2 := hg b (stn (F a s).2) h1.2
  rw [whl_s, if_pos e1, if_pos e2]
  split
  · exact whl_g hg m _ h2.2
  · exact grw.refl h2.2
theorem rin_g {F : rfT} {op x : Int} (hg : ∀ f s, rok s → grw s (F f s).2) (s : rnT) (h : rok s) : grw s (rin F op x s).2 := by
  unfold rin
  split
  · exact whl_g hg _ s h
  · split
    · split
      · exact hg _ (stn s) h
      · exact hg _ (stn s) h
    · exact hg _ s h
theorem stp_g {hd ns : Int} {F : rfT} {op x : Int} (hg : ∀ f s, rok s → grw s (F f s).2) (s : rnT) (h : rok s) (hd4 : s.2.2.2.1 < 400) : grw s (stp hd ns F op x (dni s)).2 := by
  have hk : rok (dni s) := by
    obtain ⟨h1, h2⟩ := h
    refine ⟨?_, ?_⟩
    · show 0 ≤ s.2.2.2.1 + 1 ∧ s.2.2.2.1 + 1 ≤ 400
      omega
    · show s.2.2.1.1 + 200 * (400 - (s.2.2.2.1 + 1)) ≤ 2147000000
      omega
  unfold stp
  split
  · exact ⟨Int.le_refl _, hk⟩
  · split
    · have hp := wkT_pg op x (dni s)
      refine ⟨?_, ?_⟩
      · show s.2.2.1.1 ≤ (wkT op x (dni s)).2.2.1.1
        rw [hp.1]
        exact Int.le_refl _
      · show rok (wkT op x (dni s))
        unfold rok
        rw [hp.1, hp.2]
        exact hk
    · split
      · have hp := wkE_np hd op x (dni s)
        have e1 : (dni s).2.2.1.1 = s.2.2.1.1 := rfl
        have e2 : (dni s).2.2.2.1 = s.2.2.2.1 + 1 := rfl
        obtain ⟨h1, h2⟩ := h
        refine ⟨by show s.2.2.1.1 ≤ (wkE hd op x (dni s)).2.2.1.1; omega, ?_⟩
        show rok (wkE hd op x (dni s))
        unfold rok
        rw [hp.2.2]
        omega
      · exact rin_g hg (dni s) hk
theorem rlp_s (hd ns : Int) (O Q : Int → Int) (F : rfT) (m : Nat) (i : Int) (s : rnT) : rlp hd ns O Q F (m + 1) i s = if 400 ≤ s.2.2.2.1 then (false, s) else if (stp hd ns F (O i) (Q i) (dni s)).1 = true then rlp hd ns O Q F m (i + 1) (stp hd ns F (O i) (Q i) (dni s)).2 else (false, (stp hd ns F (O i) (Q i) (dni s)).2) := rfl
theorem rlp_g {hd ns : Int} {O Q : Int → Int} {F : rfT} (hg : ∀ f s, rok s → grw s (F f s).2) : ∀ (m : Nat) (i : Int) (s : rnT), rok s → grw s (rlp hd ns O Q F m i s).2
  | 0, i, s, h => grw.refl h
  | m + 1, i, s, h => by
    rw [rlp_s]
    split
    · exact grw.refl h
    · have h1 := stp_g (hd := hd) (ns := ns) (op := O i) (x := Q i) hg s h (by omega)
      split
      · exact h1.trans (rlp_g hg m (i + 1) _ h1.2)
      · exact h1
theorem rlp_g1 {hd ns : Int} {O Q : Int → Int} {F : rfT} (hg : ∀ f s, rok s → grw s (F f s).2) (m : Nat) (i : Int) (s : rnT) (h : rok s) (hd4 : s.2.2.2.1 < 400) : grw (stp hd ns F (O i) (Q i) (dni s)).2 (rlp hd ns O Q F (m + 1) i s).2 := by
  have h1 := stp_g (hd := hd) (ns := ns) (op := O i) (x := Q i) hg s h hd4
  rw [rlp_s, if_neg (by omega)]
  split
  · exact rlp_g hg m (i + 1) _ h1.2
  · exact grw.refl h1.2
theorem rf_g {hd ns : Int} {O Q Z : Int → Int} : ∀ (d : Nat) (f : Int) (s : rnT), rok s → grw s (rf hd ns O Q Z d f s).2
  | 0, f, s, h => grw.refl h
  | d + 1, f, s, h => rlp_g (fun f s h => rf_g d f s h) _ _ s h
/-! The run's contracts. -/
def rnx (sh0 : s_S) (M0 : s_M) (sz0 o hd ns : Int) (O Q Z : Int → Int) (s0 : rnT) (sh : s_S) (M : s_M) (sz : Int) (s : rnT) : Prop := mwx sh M sz o hd O Q Z ns s ∧ sz = sz0 + ((kc s0.2.2.1.1 s.2.2.1.1 : Nat) : Int) ∧ (∀ z, z < sz0 → sh z = sh0 z) ∧ fr (fun z => (z = o + 1 ∨ (o + 2 ≤ z ∧ z < o + 157) ∨ (o + 183 ≤ z ∧ z ≤ o + 246)) ∨ sz0 ≤ z) M0 M ∧ grw s0 s
def rpo (o hd ns : Int) (O Q Z : Int → Int) (sh : s_S) (M : s_M) (sz : Int) (s : rnT) (r : Bool × rnT) : s_Po := fun v' sh' M' sz' => v' = some (vi (s_b r.1)) ∧ sz' = sz + ((kc s.2.2.1.1 r.2.2.2.1.1 : Nat) : Int) ∧ (∀ z, z < sz → sh' z = sh z) ∧ mwx sh' M' sz' o hd O Q Z ns r.2 ∧ fr (fun z => (z = o + 1 ∨ (o + 2 ≤ z ∧ z < o + 157) ∨ (o + 183 ≤ z ∧ z ≤ o + 246)) ∨ sz ≤ z) M M'
theorem rnx.zero {sh0 : s_S} {M0 : s_M} {sz0 o hd ns : Int} {O Q Z : Int → Int} {s0 : rnT} (h : mwx sh0 M0 sz0 o hd O Q Z ns s0) (hr : rok s0) : rnx sh0 M0 sz0 o hd ns O Q Z s0 sh0 M0 sz0 s0 := ⟨h, by rw [kc_self]; omega, fun _ _ => rfl, fun _ _ => rfl, grw.refl hr⟩
theorem rnx.step {sh0 : s_S} {M0 : s_M} {sz0 o hd ns : Int} {O Q Z : Int → Int} {s0 : rnT} {sh : s_S} {M : s_M} {sz : Int} {s : rnT} (h : rnx sh0 M0 sz0 o hd ns O Q Z s0 sh M sz s) {sh' : s_S} {M' : s_M} {sz' : Int} {s' : rnT} (hX : mwx sh' M' sz' o hd O Q Z ns s') (hz : sz' = sz + ((kc s.2.2.1.1 s'.2.2.1.1 : Nat) : Int)) (hs : ∀ z, z < sz → sh' z = sh z) (hf : fr (fun z => (z = o + 1 ∨ (o + 2 ≤ z ∧ z < o + 157) ∨ (o + 183 ≤ z ∧ z ≤ o + 246)) ∨ sz ≤ z) M M') (hg : grw s s') : rnx sh0 M0 sz0 o hd ns O Q Z s0 sh' M' sz' s' := by
  obtain ⟨h1, h2, h3, h4, h5⟩ := h
  have hk := kc_add h5.1 hg.1
  refine ⟨hX, by omega, fun z hz0 => (hs z (by omega)).trans (h3 z hz0), fun z hz0 => ?_, h5.trans hg⟩
  have hz1 : ¬ ((z = o + 1 ∨ (o + 2 ≤ z ∧ z < o + 157) ∨ (o + 183 ≤ z ∧ z ≤ o + 246)) ∨ sz0 ≤ z) := hz0
  exact (hf z (by show ¬ ((z = o + 1 ∨ (o + 2 ≤ z ∧ z < o + 157) ∨ (o + 183 ≤ z ∧ z ≤ o + 246)) ∨ sz ≤ z); omega)).trans (h4 z hz0)
/-- a step in which nothing is made -/
theorem rnx.flat {sh0 : s_S} {M0 : s_M} {sz0 o hd ns : Int} {O Q Z : Int → Int} {s0 : rnT} {sh : s_S} {M : s_M} {sz : Int} {s : rnT} (h : rnx sh0 M0 sz0 o hd ns O Q Z s0 sh M sz s) {M' : s_M} {s' : rnT} (hX : mwx sh M' sz o hd O Q Z ns s') (hn : s'.2.2.1.1 = s.2.2.1.1) (hf : fr (fun z => z = o + 1 ∨ (o + 2 ≤ z ∧ z < o + 157) ∨ (o + 183 ≤ z ∧ z ≤ o + 246)) M M') (hr : rok s') : rnx sh0 M0 sz0 o hd ns O Q Z s0 sh M' sz s' :=
  h.step hX (by rw [hn, kc_self]; omega) (fun _ _ => rfl) (fun z hz => hf z (fun q => hz (Or.inl q))) ⟨by rw [hn]; exact Int.le_refl _, hr⟩
