/-! How many lines a run makes at most. -/
def rokB (C : Int) (s : rnT) : Prop := (0 ≤ s.2.2.2.1 ∧ s.2.2.2.1 ≤ 400) ∧ s.2.2.1.1 + 200 * (400 - s.2.2.2.1) ≤ C
def grwB (C : Int) (s s' : rnT) : Prop := s.2.2.1.1 ≤ s'.2.2.1.1 ∧ rokB C s'
theorem grwB.refl {C : Int} {s : rnT} (h : rokB C s) : grwB C s s := ⟨Int.le_refl _, h⟩
theorem grwB.trans {C : Int} {a b c : rnT} (h1 : grwB C a b) (h2 : grwB C b c) : grwB C a c := ⟨Int.le_trans h1.1 h2.1, h2.2⟩
theorem whl_gB {C : Int} {F : rfT} {a b : Int} (hg : ∀ f s, rokB C s → grwB C s (F f s).2) : ∀ (m : Nat) (s : rnT), rokB C s → grwB C s (whl F a b m s).2
  | 0, s, h => grwB.refl h
  | m + 1, s, h => by
    have h1 := hg a s h
    have h2 := hg b (stn (F a s).2) h1.2
    rw [whl_s]
    split
    · split
      · split
        · exact h1.trans (h2.trans (whl_gB hg m _ h2.2))
        · exact h1.trans h2
      · exact h1
    · exact h1
theorem rin_gB {C : Int} {F : rfT} {op x : Int} (hg : ∀ f s, rokB C s → grwB C s (F f s).2) (s : rnT) (h : rokB C s) : grwB C s (rin F op x s).2 := by
  unfold rin
  split
  · exact whl_gB hg _ s h
  · split
    · split
      · exact hg _ (stn s) h
      · exact hg _ (stn s) h
    · exact hg _ s h
theorem stp_gB {C : Int} {hd ns : Int} {F : rfT} {op x : Int} (hg : ∀ f s, rokB C s → grwB C s (F f s).2) (s : rnT) (h : rokB C s) (hd4 : s.2.2.2.1 < 400) : grwB C s (stp hd ns F op x (dni s)).2 := by
  have hk : rokB C (dni s) := by
    obtain ⟨h1, h2⟩ := h
    refine ⟨?_, ?_⟩
    · show 0 ≤ s.2.2.2.1 + 1 ∧ s.2.2.2.1 + 1 ≤ 400
      omega
    · show s.2.2.1.1 + 200 * (400 - (s.2.2.2.1 + 1)) ≤ C
      omega
  unfold stp
  split
  · exact ⟨Int.le_refl _, hk⟩
  · split
    · have hp := wkT_pg op x (dni s)
      refine ⟨?_, ?_⟩
      · show s.2.2.1.1 ≤ (wkT op x (dni s)).2.2.1.1
        rw [hp.1]
        exact Int.le_refl _
      · show rokB C (wkT op x (dni s))
        unfold rokB
        rw [hp.1, hp.2]
        exact hk
    · split
      · have hp := wkE_np hd op x (dni s)
        have e1 : (dni s).2.2.1.1 = s.2.2.1.1 := rfl
        have e2 : (dni s).2.2.2.1 = s.2.2.2.1 + 1 := rfl
        obtain ⟨h1, h2⟩ := h
        refine ⟨by show s.2.2.1.1 ≤ (wkE hd op x (dni s)).2.2.1.1; omega, ?_⟩
        show rokB C (wkE hd op x (dni s))
        unfold rokB
        rw [hp.2.2]
        omega
      · exact rin_gB hg (dni s) hk
theorem rlp_gB {C : Int} {hd ns : Int} {O Q : Int → Int} {F : rfT} (hg : ∀ f s, rokB C s → grwB C s (F f s).2) : ∀ (m : Nat) (i : Int) (s : rnT), rokB C s → grwB C s (rlp hd ns O Q F m i s).2
  | 0, i, s, h => grwB.refl h
  | m + 1, i, s, h => by
    rw [rlp_s]
    split
    · exact grwB.refl h
    · have h1 := stp_gB (hd := hd) (ns := ns) (op := O i) (x := Q i) hg s h (by omega)
      split
      · exact h1.trans (rlp_gB hg m (i + 1) _ h1.2)
      · exact h1
theorem rf_gB {C : Int} {hd ns : Int} {O Q Z : Int → Int} : ∀ (d : Nat) (f : Int) (s : rnT), rokB C s → grwB C s (rf hd ns O Q Z d f s).2
  | 0, f, s, h => grwB.refl h
  | d + 1, f, s, h => rlp_gB (fun f s h => rf_gB d f s h) _ _ s h
theorem slp_gB {C : Int} {ns : Int} {O Q Z : Int → Int} {f : Int} {H : Int → Int} : ∀ (m : Nat) (i : Int) (s : rnT), rokB C s → grwB C s (slp ns O Q Z f H m i s).2
  | 0, i, s, h => grwB.refl h
  | m + 1, i, s, h => by
    have h1 := rf_gB (hd := H i) (ns := ns) (O := O) (Q := Q) (Z := Z) 8 f s h
    rw [slp_s]
    split
    · exact h1.trans (slp_gB m (i + 1) _ h1.2)
    · exact h1
theorem srn_ln {ns : Int} {O Q Z L : Int → Int} {m f y : Int} {s : rnT} : s.2.2.1.1 ≤ (srn ns O Q Z L m f y s).2.2.2.1.1 ∧ (srn ns O Q Z L m f y s).2.2.2.1.1 ≤ s.2.2.1.1 + 80000 := by
  have h0 : rokB (s.2.2.1.1 + 80000) (zdn s) := ⟨by show (0 : Int) ≤ 0 ∧ (0 : Int) ≤ 400; decide, by show s.2.2.1.1 + 200 * (400 - 0) ≤ s.2.2.1.1 + 80000; omega⟩
  have h1 : grwB (s.2.2.1.1 + 80000) (zdn s) (srn ns O Q Z L m f y s).2 := by
    unfold srn
    split
    · exact rf_gB 8 f (zdn s) h0
    · exact slp_gB _ 0 (zdn s) h0
  have h2 : s.2.2.1.1 ≤ (srn ns O Q Z L m f y s).2.2.2.1.1 := h1.1
  have h3 := h1.2.1
  have h4 := h1.2.2
  omega
theorem kc_48 {a b : Int} (h : 0 ≤ a) : kc a b ≤ 48 := by
  unfold kc
  omega
/-! What lies apart: kept lines are texts, and neither the reference nor the row of answers is one. -/
abbrev tsh (x : Option (Sum (Nat × List FieldType) (FieldType × Nat))) : Prop := x = some (.inl (0, ts_Text)) ∨ ∃ N : Nat, x = some (.inr (.char, N))
theorem lng_no {x : Option (Sum (Nat × List FieldType) (FieldType × Nat))} (h : x = some (.inr (.long, 1))) : ¬ tsh x := fun e => by
  rw [h] at e
  rcases e with e | ⟨N, e⟩
  · cases e
  · cases e
theorem pgl.off {sh : s_S} {M M' : s_M} {q lb ub n : Int} {A : Int → Int} {K : Int → List Int} (h : pgl sh M q lb ub n A K) (hq : M' q = M q) (hu : ∀ z, lb ≤ z → z < ub → tsh (sh z) → M' z = M z) : pgl sh M' q lb ub n A K := fun i h0 h1 h2 => by
  obtain ⟨g1, g2, g3, g4⟩ := h i h0 h1 h2
  refine ⟨by rw [hq]; exact g1, g2.mv (fun z z1 z2 => ⟨rfl, ?_⟩), g3, g4⟩
  rcases (show z = A i ∨ z = A i + 1 by omega) with e | e
  · rw [e]
    exact hu _ (by omega) (by omega) (Or.inl g2.1.1)
  · rw [e]
    exact hu _ (by omega) (by omega) (Or.inr ⟨_, g2.1.2.1⟩)
theorem cwd.off {sh : s_S} {M M' : s_M} {sz o : Int} {s : rnT} {hd : Int} {ns : Int} {O : Int → Int} {Q : Int → Int} {Z : Int → Int} {nr : Int} {t : List Int} {WR : Int → Int} {YR : Int → List Int} {vR : List Int} {nc : Int} {m : Int} {WC : Int → Int} {L : Int → Int} (h : cwd sh M sz o s hd ns O Q Z nr t WR YR vR nc m WC L) (h1 : ∀ z, o ≤ z → z ≤ o + 246 → M' z = M z) (h2 : ∀ z, o + 247 ≤ z → z < sz → tsh (sh z) → M' z = M z) : cwd sh M' sz o s hd ns O Q Z nr t WR YR vR nc m WC L := by
  obtain ⟨g1, ⟨T1, T2, T3, U1, U2, hw⟩, g3, g4, g5⟩ := h
  obtain ⟨q1, q2, q3, q4, q5, q6, q7, q8, q9, q10, q11, ⟨A, q12⟩, q13, q14, q15⟩ := hw
  have hu : ∀ z, o ≤ z → z ≤ o + 246 → sh z = sh z ∧ M' z = M z := fun z a b => ⟨rfl, h1 z a b⟩
  have w1 := hu (o + 1) (by omega) (by omega)
  have w5 := hu (o + 225) (by omega) (by omega)
  exact ⟨g1.mv (hu o (by omega) (by omega)), ⟨T1, T2, T3, U1, U2, ⟨w1.1.trans q1.1, w1.2.trans q1.2⟩, q2.mv (fun z a b => hu z (by omega) (by omega)) w1.1, q3.mv (fun z a b => hu z (by omega) (by omega)), q4.mv (fun z a b => hu z (by omega) (by omega)), q5.mv (fun z a b => hu z (by omega) (by omega)), q6.mv (fun z a b => hu z (by omega) (by omega)), q7.mv (fun z a b => hu z (by omega) (by omega)), q8.mv (fun z a b => hu z (by omega) (by omega)), ⟨(congrFun w5.2 _).trans q9.1, (congrFun w5.2 _).trans q9.2⟩, q10.mv (fun z a b => hu z (by omega) (by omega)) w1.1, q11.mv (fun z a b => hu z (by omega) (by omega)), ⟨A, q12.off (hu (o + 224) (by omega) (by omega)).2 h2⟩, q13.mv (fun z a b => hu z (by omega) (by omega)), q14, q15⟩, g3.mv (fun z a b => hu z (by omega) (by omega)) w1.1, g4.mv (fun z a b => hu z (by omega) (by omega)) w1.1, g5⟩
theorem mq.mvo {sh sh' : s_S} {M M' : s_M} {r : Int} {S : s_M} (h : mq sh M M r S) (hu : as_ r (r + 29) sh M sh' M') : mq sh' M' M' r S := ⟨h.1.mv hu, fun k k0 k1 => ((hu (r + k) (by omega) (by omega)).2).trans (h.2.1 k k0 k1), h.2.2.1, fun _ _ => rfl⟩
theorem mq.self {sh : s_S} {M0 M : s_M} {r : Int} {S : s_M} (h : mq sh M0 M r S) : mq sh M M r S := ⟨h.1, h.2.1, h.2.2.1, fun _ _ => rfl⟩
theorem mds.shp {sh : s_S} {M : s_M} {r z : Int} (h : mds sh M r) (hz : r ≤ z ∧ z ≤ r + 28) : ¬ tsh (sh z) := by
  rcases (show z = r ∨ z = r + 1 ∨ z = r + 2 ∨ z = r + 3 ∨ z = r + 4 ∨ z = r + 5 ∨ z = r + 6 ∨ z = r + 7 ∨ z = r + 8 ∨ z = r + 9 ∨ z = r + 10 ∨ z = r + 11 ∨ z = r + 12 ∨ z = r + 13 ∨ z = r + 14 ∨ z = r + 15 ∨ z = r + 16 ∨ z = r + 17 ∨ z = r + 18 ∨ z = r + 19 ∨ z = r + 20 ∨ z = r + 21 ∨ z = r + 22 ∨ z = r + 23 ∨ z = r + 24 ∨ z = r + 25 ∨ z = r + 26 ∨ z = r + 27 ∨ z = r + 28 by omega) with e | e | e | e | e | e | e | e | e | e | e | e | e | e | e | e | e | e | e | e | e | e | e | e | e | e | e | e | e
  · rw [e, h.1]
    intro e2
    rcases e2 with e2 | ⟨N, e2⟩
    · exact absurd (Prod.mk.inj (Sum.inl.inj (Option.some.inj e2))).1 (by decide)
    · cases e2
  · have g : sh (r + 1) = some (.inr (.int, 10)) := (h.2.2 0 _ rfl).1
    rw [e, g]
    intro e2
    rcases e2 with e2 | ⟨N, e2⟩ <;> cases e2
  · have g : sh (r + 2) = some (.inr (.int, 320)) := (h.2.2 1 _ rfl).1
    rw [e, g]
    intro e2
    rcases e2 with e2 | ⟨N, e2⟩ <;> cases e2
  · have g : sh (r + 3) = some (.inr (.int, 85)) := (h.2.2 2 _ rfl).1
    rw [e, g]
    intro e2
    rcases e2 with e2 | ⟨N, e2⟩ <;> cases e2
  · have g : sh (r + 4) = some (.inr (.int, 5100)) := (h.2.2 3 _ rfl).1
    rw [e, g]
    intro e2
    rcases e2 with e2 | ⟨N, e2⟩ <;> cases e2
  · have g : sh (r + 5) = some (.inr (.long, 9)) := (h.2.2 4 _ rfl).1
    rw [e, g]
    intro e2
    rcases e2 with e2 | ⟨N, e2⟩ <;> cases e2
  · have g : sh (r + 6) = some (.inr (.long, 9)) := (h.2.2 5 _ rfl).1
    rw [e, g]
    intro e2
    rcases e2 with e2 | ⟨N, e2⟩ <;> cases e2
  · have g : sh (r + 7) = some (.inr (.int, 9)) := (h.2.2 6 _ rfl).1
    rw [e, g]
    intro e2
    rcases e2 with e2 | ⟨N, e2⟩ <;> cases e2
  · have g : sh (r + 8) = some (.inr (.long, 54)) := (h.2.2 7 _ rfl).1
    rw [e, g]
    intro e2
    rcases e2 with e2 | ⟨N, e2⟩ <;> cases e2
  · have g : sh (r + 9) = some (.inr (.long, 8)) := (h.2.2 8 _ rfl).1
    rw [e, g]
    intro e2
    rcases e2 with e2 | ⟨N, e2⟩ <;> cases e2
  · have g : sh (r + 10) = some (.inr (.long, 10)) := (h.2.2 9 _ rfl).1
    rw [e, g]
    intro e2
    rcases e2 with e2 | ⟨N, e2⟩ <;> cases e2
  · have g : sh (r + 11) = some (.inr (.int, 8)) := (h.2.2 10 _ rfl).1
    rw [e, g]
    intro e2
    rcases e2 with e2 | ⟨N, e2⟩ <;> cases e2
  · have g : sh (r + 12) = some (.inr (.int, 6)) := (h.2.2 11 _ rfl).1
    rw [e, g]
    intro e2
    rcases e2 with e2 | ⟨N, e2⟩ <;> cases e2
  · have g : sh (r + 13) = some (.inr (.int, 144)) := (h.2.2 12 _ rfl).1
    rw [e, g]
    intro e2
    rcases e2 with e2 | ⟨N, e2⟩ <;> cases e2
  · have g : sh (r + 14) = some (.inr (.long, 144)) := (h.2.2 13 _ rfl).1
    rw [e, g]
    intro e2
    rcases e2 with e2 | ⟨N, e2⟩ <;> cases e2
  · have g : sh (r + 15) = some (.inr (.int, 4)) := (h.2.2 14 _ rfl).1
    rw [e, g]
    intro e2
    rcases e2 with e2 | ⟨N, e2⟩ <;> cases e2
  · have g : sh (r + 16) = some (.inr (.int, 12)) := (h.2.2 15 _ rfl).1
    rw [e, g]
    intro e2
    rcases e2 with e2 | ⟨N, e2⟩ <;> cases e2
  · have g : sh (r + 17) = some (.inr (.int, 12)) := (h.2.2 16 _ rfl).1
    rw [e, g]
    intro e2
    rcases e2 with e2 | ⟨N, e2⟩ <;> cases e2
  · have g : sh (r + 18) = some (.inr (.int, 8)) := (h.2.2 17 _ rfl).1
    rw [e, g]
    intro e2
    rcases e2 with e2 | ⟨N, e2⟩ <;> cases e2
  · have g : sh (r + 19) = some (.inr (.int, 8)) := (h.2.2 18 _ rfl).1
    rw [e, g]
    intro e2
    rcases e2 with e2 | ⟨N, e2⟩ <;> cases e2
  · have g : sh (r + 20) = some (.inr (.int, 8)) := (h.2.2 19 _ rfl).1
    rw [e, g]
    intro e2
    rcases e2 with e2 | ⟨N, e2⟩ <;> cases e2
  · have g : sh (r + 21) = some (.inr (.long, 8)) := (h.2.2 20 _ rfl).1
    rw [e, g]
    intro e2
    rcases e2 with e2 | ⟨N, e2⟩ <;> cases e2
  · have g : sh (r + 22) = some (.inr (.int, 40)) := (h.2.2 21 _ rfl).1
    rw [e, g]
    intro e2
    rcases e2 with e2 | ⟨N, e2⟩ <;> cases e2
  · have g : sh (r + 23) = some (.inr (.int, 40)) := (h.2.2 22 _ rfl).1
    rw [e, g]
    intro e2
    rcases e2 with e2 | ⟨N, e2⟩ <;> cases e2
  · have g : sh (r + 24) = some (.inr (.int, 40)) := (h.2.2 23 _ rfl).1
    rw [e, g]
    intro e2
    rcases e2 with e2 | ⟨N, e2⟩ <;> cases e2
  · have g : sh (r + 25) = some (.inr (.int, 40)) := (h.2.2 24 _ rfl).1
    rw [e, g]
    intro e2
    rcases e2 with e2 | ⟨N, e2⟩ <;> cases e2
  · have g : sh (r + 26) = some (.inr (.int, 184)) := (h.2.2 25 _ rfl).1
    rw [e, g]
    intro e2
    rcases e2 with e2 | ⟨N, e2⟩ <;> cases e2
  · have g : sh (r + 27) = some (.inr (.int, 24)) := (h.2.2 26 _ rfl).1
    rw [e, g]
    intro e2
    rcases e2 with e2 | ⟨N, e2⟩ <;> cases e2
  · have g : sh (r + 28) = some (.inr (.int, 4320)) := (h.2.2 27 _ rfl).1
    rw [e, g]
    intro e2
    rcases e2 with e2 | ⟨N, e2⟩ <;> cases e2
/-! The functions stay what a run can work on. -/
theorem opk.def {O Q Z : Int → Int} (h : opk O Q Z) {f q v : Int} (hv : rL v) : opk (if dek Z f q = 0 then rset O (f * 24 + Z f) q else O) (if dek Z f q = 0 then rset Q (f * 24 + Z f) (if 13 ≤ q then max v 0 else v) else Q) (if dek Z f q = 0 then inc Z f else Z) := by
  by_cases c : dek Z f q = 0
  · rw [if_pos c, if_pos c, if_pos c]
    have hc : ((0 ≤ f ∧ f < 6) ∧ 0 ≤ q ∧ q < 30) ∧ Z f < 24 := by
      unfold dek at c
      split at c
      · rename_i g
        split at c
        · exact absurd c (by decide)
        · exact ⟨g, by omega⟩
      · exact absurd c (by decide)
    obtain ⟨h1, h2, h3, h4⟩ := h
    have hm : rL (if 13 ≤ q then max v 0 else v) := by
      split
      · exact ⟨by omega, by omega⟩
      · exact hv
    refine ⟨fun i => ?_, fun i => ?_, fun i => ?_, fun g g0 g1 => ?_⟩
    · unfold rset
      split
      · omega
      · exact h1 i
    · unfold rset
      split
      · exact hm
      · exact h2 i
    · unfold rset
      by_cases e : i = f * 24 + Z f
      · rw [if_pos e, if_pos e]
        intro hq
        rw [if_pos hq]
        omega
      · rw [if_neg e, if_neg e]
        exact h3 i
    · have := h4 g g0 g1
      unfold inc
      split
      · rename_i e
        rw [e]
        have := h4 f hc.1.1.1 hc.1.1.2
        omega
      · exact this
  · rw [if_neg c, if_neg c, if_neg c]
    exact h
theorem opk.clr {O Q Z : Int → Int} (h : opk O Q Z) {f : Int} : opk O Q (if clk f = 0 then rset Z f 0 else Z) := by
  split
  · refine ⟨h.1, h.2.1, h.2.2.1, fun g g0 g1 => ?_⟩
    unfold rset
    split
    · decide
    · exact h.2.2.2 g g0 g1
  · exact h
/-- the class and the reference stand alike: a lines were made -/
def LR (sh : s_S) (M : s_M) (sz o a : Int) : Prop := ∃ (s : rnT) (hd ns : Int) (O Q Z : Int → Int) (nr : Int) (t : List Int) (WR : Int → Int) (YR : Int → List Int) (vR : List Int) (nc m : Int) (WC L : Int → Int) (S : s_M) (T : Int → List Int), cwd sh M sz o s hd ns O Q Z nr t WR YR vR nc m WC L ∧ mq sh M M (o + 247) S ∧ cpl S T s ns O Q Z t nc m WC L ∧ opk O Q Z ∧ sh (o + 276) = some (.inr (.long, 1)) ∧ o + 277 ≤ sz ∧ s.2.2.1.1 = a
theorem LR.mk {sh : s_S} {M1 M2 : s_M} {sz o a : Int} {s : rnT} {hd ns : Int} {O Q Z : Int → Int} {nr : Int} {t : List Int} {WR : Int → Int} {YR : Int → List Int} {vR : List Int} {nc m : Int} {WC L : Int → Int} {S : s_M} {T : Int → List Int} (hcw : cwd sh M1 sz o s hd ns O Q Z nr t WR YR vR nc m WC L) (hmq : mq sh M1 M2 (o + 247) S) (hcp : cpl S T s ns O Q Z t nc m WC L) (hok : opk O Q Z) (hq : sh (o + 276) = some (.inr (.long, 1))) (hsz : o + 277 ≤ sz) (ha : s.2.2.1.1 = a) : LR sh M2 sz o a :=
  ⟨s, hd, ns, O, Q, Z, nr, t, WR, YR, vR, nc, m, WC, L, S, T, hcw.off (fun z a b => hmq.2.2.2 z (by show ¬ (o + 247 ≤ z ∧ z ≤ o + 247 + 28); omega)) (fun z a b c => hmq.2.2.2 z (fun y => hmq.1.shp y c)), hmq.self, hcp, hok, hq, hsz, ha⟩
