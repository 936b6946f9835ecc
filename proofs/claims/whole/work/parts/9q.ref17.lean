theorem prt_spc {u : List Int} (h : prt u) : prt (spc u) := by
  unfold spc
  split
  · exact prt_ta h (by decide)
  · exact h
theorem prt_acm {b e : Int} {u : List Int} (h : prt u) : prt (acm b e u) := by
  unfold acm
  split
  · exact prt_ta h (by decide)
  · exact h
theorem prt_cma {cm : Bool} {b e : Int} {u : List Int} (h : prt u) : prt (cma cm b e u) := by
  unfold cma
  split
  · exact prt_acm h
  · exact h
def bnw (W len : Int) (B N : Int → Int) : Prop := ∀ j : Int, 0 ≤ j → j < W → 0 ≤ B j ∧ B j < N j ∧ N j ≤ len
theorem prt_wpt {t : List Int} {W : Int} {B N : Int → Int} {ini : Bool} {j : Int} {u : List Int} (ht : prt t) (hw : bnw W (t.length : Int) B N) (hj : 0 ≤ j ∧ j < W) (h : prt u) : prt (wpt t B N ini j u) := by
  unfold wpt
  split
  · unfold ain
    refine prt_ta ?_ (by decide)
    split
    · rename_i q
      have hin := ipl_in (t := t) (N j - B j).toNat (B j) (-1)
      have hb := hw j hj.1 hj.2
      have q2 : 0 ≤ ipl t (N j - B j).toNat (B j) (-1) := q
      exact prt_ta (prt_spc h) (ht _ q (by show ipl t (N j - B j).toNat (B j) (-1) < _; omega))
    · exact prt_spc h
  · exact prt_app (prt_spc h) (prt_sl ht)
theorem prt_wds {t : List Int} {W : Int} {B N : Int → Int} {ini : Bool} {b e : Int} {u : List Int} (ht : prt t) (hw : bnw W (t.length : Int) B N) (hb : 0 ≤ b ∧ e ≤ W) (h : prt u) : prt (wds t B N ini b e u) := by
  unfold wds
  refine it_P (wpt t B N ini) prt b (max b e) (fun j s j0 j1 hs => ?_) _ b u (by omega) (by omega) h
  exact prt_wpt ht hw (by omega) hs
/-- a name put together, in the reference's words -/
def ptw (t : List Int) (B N : Int → Int) (V : Int → Int) (f : Int) : List Int :=
  if f = 0 then wds t B N false (V 14) (V 15) (cma true (V 14) (V 15) (wds t B N false (V 12) (V 13) (cma false (V 12) (V 13) (wds t B N false (V 10) (V 11) (cma false (V 10) (V 11) (wds t B N false (V 8) (V 9) (cma false (V 8) (V 9) [])))))))
  else if f = 1 then wds t B N true (V 8) (V 9) (cma true (V 8) (V 9) (wds t B N false (V 14) (V 15) (cma true (V 14) (V 15) (wds t B N false (V 12) (V 13) (cma false (V 12) (V 13) (wds t B N false (V 10) (V 11) (cma false (V 10) (V 11) [])))))))
  else if f = 2 then wds t B N false (V 12) (V 13) (cma false (V 12) (V 13) [])
  else wds t B N false (V 12) (V 13) (cma false (V 12) (V 13) (wds t B N false (V 10) (V 11) (cma false (V 10) (V 11) (wds t B N true (V 8) (V 9) (cma false (V 8) (V 9) [])))))
theorem wpt_f {t : List Int} {B N : Int → Int} : wpt t B N false = aws t B N := by
  funext i u
  rfl
theorem wpt_t {t : List Int} {B N : Int → Int} : wpt t B N true = ain t B N := by
  funext i u
  rfl
theorem ptw_eq {t : List Int} {B N V : Int → Int} {f : Int} : ptw t B N V f = ptg t B N (V 8) (V 9) (V 10) (V 11) (V 12) (V 13) (V 14) (V 15) f := by
  unfold ptw ptg wds awd ais
  rw [wpt_f, wpt_t]
  rfl
theorem prt_ptw {t : List Int} {W : Int} {B N V : Int → Int} {f : Int} (ht : prt t) (hw : bnw W (t.length : Int) B N) (hb : rbk W V) : prt (ptw t B N V f) := by
  obtain ⟨b1, b2, b3, b4⟩ := hb
  have g : ∀ {ini cm : Bool} {b e : Int} {u : List Int}, 0 ≤ b ∧ e ≤ W → prt u → prt (wds t B N ini b e (cma cm b e u)) := fun hb hu => prt_wds ht hw hb (prt_cma hu)
  unfold ptw
  split
  · exact g b4 (g b3 (g b2 (g b1 prt_nil)))
  · split
    · exact g b1 (g b4 (g b3 (g b2 prt_nil)))
    · split
      · exact g b3 prt_nil
      · exact g b3 (g b2 (g b1 prt_nil))
/-- all that groups want -/
def gok (S : s_M) (W len : Int) (B N V : Int → Int) : Prop := rgw S W len 0 (V 8) (V 9) B N ∧ rgw S W len 1 (V 10) (V 11) B N ∧ rgw S W len 2 (V 12) (V 13) B N ∧ rgw S W len 3 (V 14) (V 15) B N
theorem gok.ex {S S' : s_M} {W len : Int} {B N V : Int → Int} (h : gok S W len B N V) (x : exG S S') : gok S' W len B N V := ⟨h.1.ex x, h.2.1.ex x, h.2.2.1.ex x, h.2.2.2.ex x⟩
theorem p_grps {N : Nat} (hN : 100 ≤ N) {S : s_M} {T : Int → List Int} {t : List Int} {B Nn V : Int → Int} {W r b e : Int} (cm ini : Bool) (u : List Int) (h : TX S (lset T 84 u)) (ht : T 82 = t) (hp : prt t) (hg : gok S W (t.length : Int) B Nn V) (hr : (r = 0 ∧ b = V 8 ∧ e = V 9) ∨ (r = 1 ∧ b = V 10 ∧ e = V 11) ∨ (r = 2 ∧ b = V 12 ∧ e = V 13) ∨ (r = 3 ∧ b = V 14 ∧ e = V 15)) (h43 : S 0 43 = s_b (decide (0 < u.length))) : ∃ S', A_group N r (s_b cm) (s_b ini) S = some (0, S') ∧ TX S' (lset T 84 (wds t B Nn ini b e (cma cm b e u))) ∧ gok S' W (t.length : Int) B Nn V ∧ S' 0 43 = s_b (decide (0 < (wds t B Nn ini b e (cma cm b e u)).length)) ∧ exG S S' := by
  have hT82 : lset T 84 u 82 = t := (lset_ne (by decide)).trans ht
  have hgr : rgw S W (t.length : Int) r b e B Nn := by
    rcases hr with ⟨q1, q2, q3⟩ | ⟨q1, q2, q3⟩ | ⟨q1, q2, q3⟩ | ⟨q1, q2, q3⟩
    · rw [q1, q2, q3]
      exact hg.1
    · rw [q1, q2, q3]
      exact hg.2.1
    · rw [q1, q2, q3]
      exact hg.2.2.1
    · rw [q1, q2, q3]
      exact hg.2.2.2
  obtain ⟨S1, a1, a2, a3, a4⟩ := p_group (N := N) hN cm ini h (by rw [hT82]; exact hp) (by rw [hT82]; exact hgr) (by rw [lset_at]; exact h43)
  rw [lset_lset, lset_at, hT82] at a2
  rw [lset_at, hT82] at a3
  exact ⟨S1, a1, a2, hg.ex a4, a3, a4⟩
def A_forms (N : Nat) (x2 : Int) (S : s_M) : rO := if x2 = 0 then (bnd (A_group N 0 0 0 S) fun _ S108 => A_person_j62 N x2 S108) else (A_person_j62 N x2 S)
theorem p_form0 {N : Nat} (hN : 100 ≤ N) {S : s_M} {T : Int → List Int} {t : List Int} {B Nn V : Int → Int} {W : Int} (h : TX S (lset T 84 [])) (ht : T 82 = t) (hp : prt t) (hg : gok S W (t.length : Int) B Nn V) (h43 : S 0 43 = s_b (decide (0 < ([] : List Int).length))) : ∃ S', A_forms N 0 S = some (0, S') ∧ TX S' (lset T 84 (ptw t B Nn V 0)) ∧ exG S S' := by
  obtain ⟨S0, a0, b0, c0, d0, e0⟩ := p_grps (N := N) hN (r := 0) (b := V 8) (e := V 9) false false ([]) h ht hp hg (Or.inl ⟨rfl, rfl, rfl⟩) h43
  have a0 : A_group N 0 0 0 S = some (0, S0) := a0
  obtain ⟨S1, a1, b1, c1, d1, e1⟩ := p_grps (N := N) hN (r := 1) (b := V 10) (e := V 11) false false (wds t B Nn false (V 8) (V 9) (cma false (V 8) (V 9) ([]))) b0 ht hp c0 (Or.inr (Or.inl ⟨rfl, rfl, rfl⟩)) d0
  have a1 : A_group N 1 0 0 S0 = some (0, S1) := a1
  obtain ⟨S2, a2, b2, c2, d2, e2⟩ := p_grps (N := N) hN (r := 2) (b := V 12) (e := V 13) false false (wds t B Nn false (V 10) (V 11) (cma false (V 10) (V 11) (wds t B Nn false (V 8) (V 9) (cma false (V 8) (V 9) ([]))))) b1 ht hp c1 (Or.inr (Or.inr (Or.inl ⟨rfl, rfl, rfl⟩))) d1
  have a2 : A_group N 2 0 0 S1 = some (0, S2) := a2
  obtain ⟨S3, a3, b3, c3, d3, e3⟩ := p_grps (N := N) hN (r := 3) (b := V 14) (e := V 15) true false (wds t B Nn false (V 12) (V 13) (cma false (V 12) (V 13) (wds t B Nn false (V 10) (V 11) (cma false (V 10) (V 11) (wds t B Nn false (V 8) (V 9) (cma false (V 8) (V 9) ([]))))))) b2 ht hp c2 (Or.inr (Or.inr (Or.inr ⟨rfl, rfl, rfl⟩))) d2
  have a3 : A_group N 3 1 0 S2 = some (0, S3) := a3
  have hf : ptw t B Nn V 0 = wds t B Nn false (V 14) (V 15) (cma true (V 14) (V 15) (wds t B Nn false (V 12) (V 13) (cma false (V 12) (V 13) (wds t B Nn false (V 10) (V 11) (cma false (V 10) (V 11) (wds t B Nn false (V 8) (V 9) (cma false (V 8) (V 9) ([])))))))) := if_pos rfl
  rw [hf]
  refine ⟨S3, ?_, b3, (((e0).trans e1).trans e2).trans e3⟩
  unfold A_forms
  rw [if_pos rfl, bnd_e a0, A_person_j62_e, if_neg (by decide), A_person_j74_e, if_neg (by decide), bnd_e a1, A_person_j86_e, bnd_e a2, if_pos (by decide), bnd_e a3, A_person_j105_e, if_neg (by decide), A_person_j117_e]
theorem p_form1 {N : Nat} (hN : 100 ≤ N) {S : s_M} {T : Int → List Int} {t : List Int} {B Nn V : Int → Int} {W : Int} (h : TX S (lset T 84 [])) (ht : T 82 = t) (hp : prt t) (hg : gok S W (t.length : Int) B Nn V) (h43 : S 0 43 = s_b (decide (0 < ([] : List Int).length))) : ∃ S', A_forms N 1 S = some (0, S') ∧ TX S' (lset T 84 (ptw t B Nn V 1)) ∧ exG S S' := by
  obtain ⟨S0, a0, b0, c0, d0, e0⟩ := p_grps (N := N) hN (r := 1) (b := V 10) (e := V 11) false false ([]) h ht hp hg (Or.inr (Or.inl ⟨rfl, rfl, rfl⟩)) h43
  have a0 : A_group N 1 0 0 S = some (0, S0) := a0
  obtain ⟨S1, a1, b1, c1, d1, e1⟩ := p_grps (N := N) hN (r := 2) (b := V 12) (e := V 13) false false (wds t B Nn false (V 10) (V 11) (cma false (V 10) (V 11) ([]))) b0 ht hp c0 (Or.inr (Or.inr (Or.inl ⟨rfl, rfl, rfl⟩))) d0
  have a1 : A_group N 2 0 0 S0 = some (0, S1) := a1
  obtain ⟨S2, a2, b2, c2, d2, e2⟩ := p_grps (N := N) hN (r := 3) (b := V 14) (e := V 15) true false (wds t B Nn false (V 12) (V 13) (cma false (V 12) (V 13) (wds t B Nn false (V 10) (V 11) (cma false (V 10) (V 11) ([]))))) b1 ht hp c1 (Or.inr (Or.inr (Or.inr ⟨rfl, rfl, rfl⟩))) d1
  have a2 : A_group N 3 1 0 S1 = some (0, S2) := a2
  obtain ⟨S3, a3, b3, c3, d3, e3⟩ := p_grps (N := N) hN (r := 0) (b := V 8) (e := V 9) true true (wds t B Nn false (V 14) (V 15) (cma true (V 14) (V 15) (wds t B Nn false (V 12) (V 13) (cma false (V 12) (V 13) (wds t B Nn false (V 10) (V 11) (cma false (V 10) (V 11) ([]))))))) b2 ht hp c2 (Or.inl ⟨rfl, rfl, rfl⟩) d2
  have a3 : A_group N 0 1 1 S2 = some (0, S3) := a3
  have hf : ptw t B Nn V 1 = wds t B Nn true (V 8) (V 9) (cma true (V 8) (V 9) (wds t B Nn false (V 14) (V 15) (cma true (V 14) (V 15) (wds t B Nn false (V 12) (V 13) (cma false (V 12) (V 13) (wds t B Nn false (V 10) (V 11) (cma false (V 10) (V 11) ([])))))))) := (if_neg (by decide)).trans (if_pos rfl)
  rw [hf]
  refine ⟨S3, ?_, b3, (((e0).trans e1).trans e2).trans e3⟩
  unfold A_forms
  rw [if_neg (by decide), A_person_j62_e, if_neg (by decide), A_person_j74_e, if_neg (by decide), bnd_e a0, A_person_j86_e, bnd_e a1, if_pos (by decide), bnd_e a2, A_person_j105_e, if_pos (by decide), bnd_e a3, A_person_j117_e]
theorem p_form2 {N : Nat} (hN : 100 ≤ N) {S : s_M} {T : Int → List Int} {t : List Int} {B Nn V : Int → Int} {W : Int} (h : TX S (lset T 84 [])) (ht : T 82 = t) (hp : prt t) (hg : gok S W (t.length : Int) B Nn V) (h43 : S 0 43 = s_b (decide (0 < ([] : List Int).length))) : ∃ S', A_forms N 2 S = some (0, S') ∧ TX S' (lset T 84 (ptw t B Nn V 2)) ∧ exG S S' := by
  obtain ⟨S0, a0, b0, c0, d0, e0⟩ := p_grps (N := N) hN (r := 2) (b := V 12) (e := V 13) false false ([]) h ht hp hg (Or.inr (Or.inr (Or.inl ⟨rfl, rfl, rfl⟩))) h43
  have a0 : A_group N 2 0 0 S = some (0, S0) := a0
  have hf : ptw t B Nn V 2 = wds t B Nn false (V 12) (V 13) (cma false (V 12) (V 13) ([])) := (if_neg (by decide)).trans ((if_neg (by decide)).trans (if_pos rfl))
  rw [hf]
  refine ⟨S0, ?_, b0, e0⟩
  unfold A_forms
  rw [if_neg (by decide), A_person_j62_e, if_neg (by decide), A_person_j74_e, if_pos (by decide), A_person_j86_e, bnd_e a0, if_neg (by decide), A_person_j105_e, if_neg (by decide), A_person_j117_e]
theorem p_form3 {N : Nat} (hN : 100 ≤ N) {S : s_M} {T : Int → List Int} {t : List Int} {B Nn V : Int → Int} {W : Int} (h : TX S (lset T 84 [])) (ht : T 82 = t) (hp : prt t) (hg : gok S W (t.length : Int) B Nn V) (h43 : S 0 43 = s_b (decide (0 < ([] : List Int).length))) : ∃ S', A_forms N 3 S = some (0, S') ∧ TX S' (lset T 84 (ptw t B Nn V 3)) ∧ exG S S' := by
  obtain ⟨S0, a0, b0, c0, d0, e0⟩ := p_grps (N := N) hN (r := 0) (b := V 8) (e := V 9) false true ([]) h ht hp hg (Or.inl ⟨rfl, rfl, rfl⟩) h43
  have a0 : A_group N 0 0 1 S = some (0, S0) := a0
  obtain ⟨S1, a1, b1, c1, d1, e1⟩ := p_grps (N := N) hN (r := 1) (b := V 10) (e := V 11) false false (wds t B Nn true (V 8) (V 9) (cma false (V 8) (V 9) ([]))) b0 ht hp c0 (Or.inr (Or.inl ⟨rfl, rfl, rfl⟩)) d0
  have a1 : A_group N 1 0 0 S0 = some (0, S1) := a1
  obtain ⟨S2, a2, b2, c2, d2, e2⟩ := p_grps (N := N) hN (r := 2) (b := V 12) (e := V 13) false false (wds t B Nn false (V 10) (V 11) (cma false (V 10) (V 11) (wds t B Nn true (V 8) (V 9) (cma false (V 8) (V 9) ([]))))) b1 ht hp c1 (Or.inr (Or.inr (Or.inl ⟨rfl, rfl, rfl⟩))) d1
  have a2 : A_group N 2 0 0 S1 = some (0, S2) := a2
  have hf : ptw t B Nn V 3 = wds t B Nn false (V 12) (V 13) (cma false (V 12) (V 13) (wds t B Nn false (V 10) (V 11) (cma false (V 10) (V 11) (wds t B Nn true (V 8) (V 9) (cma false (V 8) (V 9) ([])))))) := (if_neg (by decide)).trans ((if_neg (by decide)).trans (if_neg (by decide)))
  rw [hf]
  refine ⟨S2, ?_, b2, ((e0).trans e1).trans e2⟩
  unfold A_forms
  rw [if_neg (by decide), A_person_j62_e, if_pos (by decide), bnd_e a0, A_person_j74_e, if_neg (by decide), bnd_e a1, A_person_j86_e, bnd_e a2, if_neg (by decide), A_person_j105_e, if_neg (by decide), A_person_j117_e]
theorem p_forms {N : Nat} (hN : 100 ≤ N) {S : s_M} {T : Int → List Int} {t : List Int} {B Nn V : Int → Int} {W f : Int} (hf : 0 ≤ f ∧ f < 4) (h : TX S (lset T 84 [])) (ht : T 82 = t) (hp : prt t) (hg : gok S W (t.length : Int) B Nn V) (h43 : S 0 43 = s_b (decide (0 < ([] : List Int).length))) : ∃ S', A_forms N f S = some (0, S') ∧ TX S' (lset T 84 (ptw t B Nn V f)) ∧ exG S S' := by
  rcases (by omega : f = 0 ∨ f = 1 ∨ f = 2 ∨ f = 3) with q | q | q | q
  · rw [q]
    exact p_form0 hN h ht hp hg h43
  · rw [q]
    exact p_form1 hN h ht hp hg h43
  · rw [q]
    exact p_form2 hN h ht hp hg h43
  · rw [q]
    exact p_form3 hN h ht hp hg h43
/-- texts and people's rows -/
def exH (S S' : s_M) : Prop := ∀ q j : Int, q ≠ 3 → q ≠ 4 → (q < 22 ∨ 25 < q) → ¬ (q = 0 ∧ (j = 37 ∨ j = 38 ∨ j = 43)) → S' q j = S q j
theorem exT.exH {S S' : s_M} (h : exT S S') : exH S S' := fun q j a b _ _ => h q j a b
theorem exB.exH {S S' : s_M} (h : exB S S') : exH S S' := fun q j _ _ c d => h q j c d
theorem exG.exH {S S' : s_M} (h : exG S S') : exH S S' := fun q j a b _ d => h q j a b (fun z => d ⟨z.1, by omega⟩)
theorem exH.trans {A B C : s_M} (h1 : exH A B) (h2 : exH B C) : exH A C := fun q j a b c d => (h2 q j a b c d).trans (h1 q j a b c d)
theorem exH.exR {S S' : s_M} (h : exH S S') : exR S S' := fun q j a => by
  obtain ⟨a1, a2, a3, a4, a5, a6, a7, a8⟩ := a
  exact h q j a2 a3 (by omega) (fun z => a8 ⟨z.1, by omega⟩)
theorem p_person_yes {N : Nat} (hN : 100 ≤ N) {S : s_M} {T : Int → List Int} (h : TX S T) (hp : prt (T 82)) {b f : Int} (hf : 0 ≤ f ∧ f < 4) (hfn : (fnm (T 82) b).1 = true) (P : ppT) : ∃ S', A_person N b f S = some (0, S') ∧ TX S' (lset T 84 (ptP (T 82) f (tkP (T 82) (fnP (T 82) b P)))) ∧ prt (ptP (T 82) f (tkP (T 82) (fnP (T 82) b P))) ∧ exH S S' := by
  have hb := (fnm_found hp).mp hfn
  obtain ⟨V0, B0, N0, L0, P0⟩ := P
  have hc := h.clear (t := 84)
  have hT82 : lset T 84 [] 82 = T 82 := lset_ne (by decide)
  have hpe := p_people (N := N) hN hc.1 (by rw [hT82]; exact hp)
  rw [hT82] at hpe
  have hbo := p_border (N := N) hN hc.1 (by rw [hT82]; exact hp) (b := b) (by rw [hT82]; exact hfn)
  rw [hT82] at hbo
  obtain ⟨k1, k2⟩ := fnm_ok hp hfn
  obtain ⟨S1, a1, a2, a3⟩ := p_cut (N := N) hN hc.1 (by rw [hT82]; exact hp) (bg := (fnm (T 82) b).2.1) (e := (fnm (T 82) b).2.2) (rset (rset V0 0 (fnm (T 82) b).2.1) 1 (fnm (T 82) b).2.2) B0 N0 P0 (by rw [hT82]; exact k1) (by rw [hT82]; exact k2)
  rw [hT82] at a1 a2
  have t1 := hc.1.exb a3
  obtain ⟨S2, b1, b2, b3, b4, b5⟩ := p_roles (N := N) hN (W := L0) t1 (by rw [hT82]; exact a2)
  rw [hT82] at b2 b3 b4
  have t2 := t1.exb b5
  have x3 : exG S2 (m_s S2 0 43 0) := exG.put
  have t3 : TX (m_s S2 0 43 0) (lset T 84 []) := t2.ex (fun q j z => m_sk (by omega))
  have e0 : rset (rset V0 0 (fnm (T 82) b).2.1) 1 (fnm (T 82) b).2.2 0 = (fnm (T 82) b).2.1 := by rw [rset_ne (by decide), rset_at]
  have e1 : rset (rset V0 0 (fnm (T 82) b).2.1) 1 (fnm (T 82) b).2.2 1 = (fnm (T 82) b).2.2 := rset_at
  obtain ⟨c1, c2, c3, c4, c5⟩ := b2
  have bn : bnw (dV (T 82) (rset (rset V0 0 (fnm (T 82) b).2.1) 1 (fnm (T 82) b).2.2) B0 N0 P0 (fnm (T 82) b).2.1 (fnm (T 82) b).2.2 5) ((T 82).length : Int) (dB (T 82) (rset (rset V0 0 (fnm (T 82) b).2.1) 1 (fnm (T 82) b).2.2) B0 N0 P0 (fnm (T 82) b).2.1 (fnm (T 82) b).2.2) (dN (T 82) (rset (rset V0 0 (fnm (T 82) b).2.1) 1 (fnm (T 82) b).2.2) B0 N0 P0 (fnm (T 82) b).2.1 (fnm (T 82) b).2.2) := fun j j0 j1 => (c4 j j0 j1).2.2.1
  have gk := (show gok S2 _ _ _ _ _ from ⟨⟨⟨c1, c2⟩, fun j j0 j1 => ⟨(c4 j j0 j1).1, (c4 j j0 j1).2.1, (c4 j j0 j1).2.2.1⟩, fun j j0 j1 => (b3 j j0 j1).1, b4.1⟩, ⟨⟨c1, c2⟩, fun j j0 j1 => ⟨(c4 j j0 j1).1, (c4 j j0 j1).2.1, (c4 j j0 j1).2.2.1⟩, fun j j0 j1 => (b3 j j0 j1).2.1, b4.2.1⟩, ⟨⟨c1, c2⟩, fun j j0 j1 => ⟨(c4 j j0 j1).1, (c4 j j0 j1).2.1, (c4 j j0 j1).2.2.1⟩, fun j j0 j1 => (b3 j j0 j1).2.2.1, b4.2.2.1⟩, ⟨⟨c1, c2⟩, fun j j0 j1 => ⟨(c4 j j0 j1).1, (c4 j j0 j1).2.1, (c4 j j0 j1).2.2.1⟩, fun j j0 j1 => (b3 j j0 j1).2.2.2, b4.2.2.2⟩⟩).ex x3
  obtain ⟨S3, d1, d2, d3⟩ := p_forms (N := N) hN hf t3 rfl hp gk (m_s_s)
  have hpp := prt_ptw (f := f) hp bn b4
  have hq : ptP (T 82) f (tkP (T 82) (fnP (T 82) b (V0, B0, N0, L0, P0))) = ptw (T 82) (dB (T 82) (rset (rset V0 0 (fnm (T 82) b).2.1) 1 (fnm (T 82) b).2.2) B0 N0 P0 (fnm (T 82) b).2.1 (fnm (T 82) b).2.2) (dN (T 82) (rset (rset V0 0 (fnm (T 82) b).2.1) 1 (fnm (T 82) b).2.2) B0 N0 P0 (fnm (T 82) b).2.1 (fnm (T 82) b).2.2) (tkV (dV (T 82) (rset (rset V0 0 (fnm (T 82) b).2.1) 1 (fnm (T 82) b).2.2) B0 N0 P0 (fnm (T 82) b).2.1 (fnm (T 82) b).2.2) (lwl (T 82) (dB (T 82) (rset (rset V0 0 (fnm (T 82) b).2.1) 1 (fnm (T 82) b).2.2) B0 N0 P0 (fnm (T 82) b).2.1 (fnm (T 82) b).2.2) (dN (T 82) (rset (rset V0 0 (fnm (T 82) b).2.1) 1 (fnm (T 82) b).2.2) B0 N0 P0 (fnm (T 82) b).2.1 (fnm (T 82) b).2.2) L0 (dV (T 82) (rset (rset V0 0 (fnm (T 82) b).2.1) 1 (fnm (T 82) b).2.2) B0 N0 P0 (fnm (T 82) b).2.1 (fnm (T 82) b).2.2 5)) (dP (T 82) (rset (rset V0 0 (fnm (T 82) b).2.1) 1 (fnm (T 82) b).2.2) B0 N0 P0 (fnm (T 82) b).2.1 (fnm (T 82) b).2.2)) f := by
    rw [ptw_eq]
    unfold ptP tkP fnP
    simp only [e0, e1]
  rw [hq]
  refine ⟨S3, ?_, d2, hpp, (((hc.2.exH).trans a3.exH).trans (b5.exH)).trans (x3.exH.trans d3.exH)⟩
  rw [A_person_e, bnd_e (p_clear (by decide)), if_neg (by omega), bnd_e hpe, if_neg (by omega), bnd_e hbo.1, bnd_e hbo.2, bnd_e a1, bnd_e b1]
  exact d1
theorem p_person_no {N : Nat} (hN : 100 ≤ N) {S : s_M} {T : Int → List Int} (h : TX S T) (hp : prt (T 82)) {b f : Int} (hfn : ¬ (fnm (T 82) b).1 = true) : A_person N b f S = some (0, m_s (m_s S 3 84 0) 1 9 (wi32 (m_s S 3 84 0 1 9 + 1))) := by
  have hc := h.clear (t := 84)
  have hT82 : lset T 84 [] 82 = T 82 := lset_ne (by decide)
  have hpe := p_people (N := N) hN hc.1 (by rw [hT82]; exact hp)
  rw [hT82] at hpe
  have hno : ¬ (1 ≤ b ∧ b ≤ cnn (T 82)) := fun z => hfn ((fnm_found hp).mpr z)
  rw [A_person_e, bnd_e (p_clear (by decide))]
  by_cases c : b < 1
  · rw [if_pos c, A_person_j19_e, bnd_e (p_warn (by decide))]
  · rw [if_neg c, bnd_e hpe, if_pos (by omega), A_person_j19_e, bnd_e (p_warn (by decide))]
theorem cnn_rng {t : List Int} (hp : prt t) : 0 ≤ cnn t ∧ cnn t ≤ (t.length : Int) + 1 := by
  rw [cnn_pcn hp]
  have g : ∀ (m : Nat) (k n v : Int), n ≤ pcn t m k n v ∧ pcn t m k n v ≤ n + m := by
    intro m
    induction m with
    | zero => exact fun k n v => ⟨Int.le_refl _, by show n ≤ n + ((0 : Nat) : Int); omega⟩
    | succ m ih =>
      intro k n v
      have := ih (k + 1) (if chn t v k = true then n + 1 else n) (p_lev v (tg t k))
      show n ≤ pcn t m (k + 1) (if chn t v k = true then n + 1 else n) (p_lev v (tg t k)) ∧ pcn t m (k + 1) (if chn t v k = true then n + 1 else n) (p_lev v (tg t k)) ≤ n + ((m + 1 : Nat) : Int)
      by_cases c : chn t v k = true
      · rw [if_pos c] at this ⊢
        omega
      · rw [if_neg c] at this ⊢
        omega
  have := g t.length 0 1 0
  split
  · omega
  · omega
