/-! What the parts of the class are, as predicates: w the row of warnings, s the shelf. -/
def shv (sh : s_S) (M : s_M) (p w n : Int) (E : Int → sen) : Prop := sh p = some (.inl (2, ts_Shelf)) ∧ sh (p + 1) = some (.inr (.object "CiteForge$Entry", 9)) ∧ sh w = some (.inr (.int, 10)) ∧ M p 0 = p + 1 ∧ M p 1 = w ∧ M p 2 = n ∧ (0 ≤ n ∧ n ≤ 8) ∧ 0 ≤ p ∧ 0 ≤ w ∧ w < p ∧ fam 17 (lE E) sh M (p + 1) 9
def rdv (sh : s_S) (M : s_M) (p s w n : Int) (t : List Int) (W : Int → Int) (Y : Int → List Int) (v : List Int) : Prop := sh p = some (.inl (3, ts_Reader)) ∧ sh (p + 3) = some (.inr (.long, 8)) ∧ sh (p + 4) = some (.inr (.object "CiteForge$Text", 8)) ∧ sh w = some (.inr (.int, 10)) ∧ M p 0 = s ∧ M p 1 = w ∧ M p 2 = p + 1 ∧ M p 3 = p + 3 ∧ M p 4 = p + 4 ∧ M p 11 = p + 21 ∧ M p 5 = n ∧ (0 ≤ n ∧ n ≤ 8) ∧ 0 ≤ p ∧ 0 ≤ w ∧ w < p ∧ 0 ≤ s ∧ tv sh M (p + 1) 320 t ∧ M (p + 3) = W ∧ (∀ i, rL (W i)) ∧ txs sh M (p + 4) 8 Y ∧ tv sh M (p + 21) 60 v
def civ (sh : s_S) (M : s_M) (p s w n m : Int) (W L : Int → Int) : Prop := sh p = some (.inl (4, ts_Citations)) ∧ sh (p + 1) = some (.inr (.long, 10)) ∧ sh (p + 2) = some (.inr (.object "CiteForge$Entry", 8)) ∧ sh w = some (.inr (.int, 10)) ∧ M p 0 = s ∧ M p 1 = w ∧ M p 2 = p + 1 ∧ M p 4 = p + 2 ∧ M p 3 = n ∧ M p 5 = m ∧ (0 ≤ n ∧ n ≤ 10) ∧ (0 ≤ m ∧ m ≤ 8) ∧ 0 ≤ p ∧ 0 ≤ w ∧ w < p ∧ 0 ≤ s ∧ M (p + 1) = W ∧ (∀ i, rL (W i)) ∧ (∀ i, 0 ≤ i → i < m → (0 ≤ L i ∧ L i < 8) ∧ M (p + 2) i = s + 2 + 17 * L i)
/-- the kept lines: line i at A i, its text K i -/
def pgv (sh : s_S) (M : s_M) (p n : Int) (t : List Int) (A : Int → Int) (K : Int → List Int) : Prop := sh p = some (.inl (8, ts_Page)) ∧ sh (p + 3) = some (.inr (.object "CiteForge$Text", 24)) ∧ M p 0 = p + 1 ∧ M p 1 = p + 3 ∧ M p 2 = n ∧ 0 ≤ n ∧ 0 ≤ p ∧ tv sh M (p + 1) 180 t ∧ (∀ i, 0 ≤ i → i < n → i < 24 → M (p + 3) i = A i ∧ tv sh M (A i) (K i).length (K i) ∧ p + 4 ≤ A i)
def pev (sh : s_S) (M : s_M) (p : Int) : Prop := sh p = some (.inl (7, ts_People)) ∧ sh (p + 1) = some (.inr (.int, 60)) ∧ sh (p + 2) = some (.inr (.int, 60)) ∧ sh (p + 3) = some (.inr (.boolean, 60)) ∧ sh (p + 4) = some (.inr (.int, 3)) ∧ M p 2 = p + 1 ∧ M p 3 = p + 2 ∧ M p 4 = p + 3 ∧ M p 6 = p + 4 ∧ 0 ≤ p
/-- s the shelf, c the citations, k the stack, g the page; O operations, Q arguments, Z sizes, G globals -/
def mcv (sh : s_S) (M : s_M) (p s c k g w : Int) (O Q Z G : Int → Int) : Prop := sh p = some (.inl (9, ts_Machine)) ∧ (sh (p + 6) = some (.inr (.int, 144)) ∧ sh (p + 7) = some (.inr (.long, 144)) ∧ sh (p + 8) = some (.inr (.int, 6)) ∧ sh (p + 9) = some (.inr (.int, 4))) ∧ (M p 0 = s ∧ M p 1 = c ∧ M p 2 = k ∧ M p 3 = g ∧ M p 4 = w) ∧ (M p 5 = p + 1 ∧ M p 6 = p + 6 ∧ M p 7 = p + 7 ∧ M p 8 = p + 8 ∧ M p 9 = p + 9 ∧ M p 10 = p + 10 ∧ M p 11 = p + 12 ∧ M p 12 = p + 14 ∧ M p 13 = p + 16 ∧ M p 14 = p + 19) ∧ pev sh M (p + 1) ∧ (M (p + 6) = O ∧ M (p + 7) = Q ∧ M (p + 8) = Z ∧ M (p + 9) = G) ∧ 0 ≤ p
/-- the Machine's own texts and values -/
def mtv (sh : s_S) (M : s_M) (p : Int) (t1 t2 t3 : List Int) (v1 v2 : sva) : Prop := tv sh M (p + 10) 60 t1 ∧ tv sh M (p + 12) 60 t2 ∧ tv sh M (p + 14) 60 t3 ∧ vv sh M (p + 16) v1.1 v1.2.1 v1.2.2 ∧ vv sh M (p + 19) v2.1 v2.2.1 v2.2.2
def mcx (sh : s_S) (M : s_M) (p s c k g w : Int) (O Q Z G : Int → Int) (t1 t2 t3 : List Int) (v1 v2 : sva) : Prop := mcv sh M p s c k g w O Q Z G ∧ mtv sh M p t1 t2 t3 v1 v2
theorem shv.mv {sh sh' : s_S} {M M' : s_M} {p w n : Int} {E : Int → sen} (h : shv sh M p w n E) (hu : as_ p (p + 155) sh M sh' M') (hw : sh' w = sh w) : shv sh' M' p w n E := by
  obtain ⟨q1, q2, q3, q4, q5, q6, q7, q8, q9, q10, q11⟩ := h
  have e := hu p (by omega) (by omega)
  have e1 := hu (p + 1) (by omega) (by omega)
  exact ⟨by rw [e.1]; exact q1, by rw [e1.1]; exact q2, by rw [hw]; exact q3, by rw [e.2]; exact q4, by rw [e.2]; exact q5, by rw [e.2]; exact q6, q7, q8, q9, q10, q11.mv (by decide) lE_loc (fun z h1 h2 => hu z (by omega) (by omega))⟩
theorem rdv.mv {sh sh' : s_S} {M M' : s_M} {p s w n : Int} {t : List Int} {W : Int → Int} {Y : Int → List Int} {v : List Int} (h : rdv sh M p s w n t W Y v) (hu : as_ p (p + 23) sh M sh' M') (hw : sh' w = sh w) : rdv sh' M' p s w n t W Y v := by
  obtain ⟨q1, q2, q3, q4, q5, q6, q7, q8, q9, q10, q11, q12, q13, q14, q15, q16, q17, q18, q19, q20, q21⟩ := h
  have e := hu p (by omega) (by omega)
  have e3 := hu (p + 3) (by omega) (by omega)
  have e4 := hu (p + 4) (by omega) (by omega)
  exact ⟨by rw [e.1]; exact q1, by rw [e3.1]; exact q2, by rw [e4.1]; exact q3, by rw [hw]; exact q4, by rw [e.2]; exact q5, by rw [e.2]; exact q6, by rw [e.2]; exact q7, by rw [e.2]; exact q8, by rw [e.2]; exact q9, by rw [e.2]; exact q10, by rw [e.2]; exact q11, q12, q13, q14, q15, q16, q17.mv (fun z h1 h2 => hu z (by omega) (by omega)), by rw [e3.2]; exact q18, q19, q20.mv (fun z h1 h2 => hu z (by omega) (by omega)), q21.mv (fun z h1 h2 => hu z (by omega) (by omega))⟩
theorem civ.mv {sh sh' : s_S} {M M' : s_M} {p s w n m : Int} {W L : Int → Int} (h : civ sh M p s w n m W L) (hu : as_ p (p + 3) sh M sh' M') (hw : sh' w = sh w) : civ sh' M' p s w n m W L := by
  obtain ⟨q1, q2, q3, q4, q5, q6, q7, q8, q9, q10, q11, q12, q13, q14, q15, q16, q17, q18, q19⟩ := h
  have e := hu p (by omega) (by omega)
  have e1 := hu (p + 1) (by omega) (by omega)
  have e2 := hu (p + 2) (by omega) (by omega)
  exact ⟨by rw [e.1]; exact q1, by rw [e1.1]; exact q2, by rw [e2.1]; exact q3, by rw [hw]; exact q4, by rw [e.2]; exact q5, by rw [e.2]; exact q6, by rw [e.2]; exact q7, by rw [e.2]; exact q8, by rw [e.2]; exact q9, by rw [e.2]; exact q10, q11, q12, q13, q14, q15, q16, by rw [e1.2]; exact q17, q18, fun i h1 h2 => by rw [e2.2]; exact q19 i h1 h2⟩
theorem svs.mv {sh sh' : s_S} {M M' : s_M} {p : Int} {f : Int → sva} (h : svs sh M p f) (hu : as_ (p + 1) (p + 38) sh M sh' M') : svs sh' M' p f := by
  intro i h0 h1
  obtain ⟨q1, q2⟩ := h i h0 h1
  exact ⟨by rw [(hu (p + 1) (by omega) (by omega)).2]; exact q1, q2.mv (fun z h1 h2 => hu z (by omega) (by omega))⟩
theorem stv.mv {sh sh' : s_S} {M M' : s_M} {p w n : Int} {f : Int → sva} (h : stv sh M p w n f) (hu : as_ p (p + 38) sh M sh' M') (hw : sh' w = sh w) : stv sh' M' p w n f := by
  obtain ⟨q1, q2, q3, q4, q5, q6, q7, q8, q9, q10, q11⟩ := h
  have e := hu p (by omega) (by omega)
  have e1 := hu (p + 1) (by omega) (by omega)
  exact ⟨by rw [e.1]; exact q1, by rw [e1.1]; exact q2, by rw [hw]; exact q3, by rw [e.2]; exact q4, by rw [e.2]; exact q5, by rw [e.2]; exact q6, q7, q8, q9, q10, q11.mv (fun z h1 h2 => hu z (by omega) (by omega))⟩
/-- the page, without lines -/
def pg0 (sh : s_S) (M : s_M) (p n : Int) (t : List Int) : Prop := sh p = some (.inl (8, ts_Page)) ∧ sh (p + 3) = some (.inr (.object "CiteForge$Text", 24)) ∧ M p 0 = p + 1 ∧ M p 1 = p + 3 ∧ M p 2 = n ∧ 0 ≤ n ∧ 0 ≤ p ∧ tv sh M (p + 1) 180 t
theorem pgv.mv {sh sh' : s_S} {M M' : s_M} {p n : Int} {t : List Int} {A : Int → Int} {K : Int → List Int} (h : pgv sh M p n t A K) (hu : as_ p (p + 4) sh M sh' M') (hk : ∀ i, 0 ≤ i → i < n → i < 24 → as_ (A i) (A i + 2) sh M sh' M') : pgv sh' M' p n t A K := by
  obtain ⟨q1, q2, q3, q4, q5, q6, q7, q8, q9⟩ := h
  have e := hu p (by omega) (by omega)
  have e3 := hu (p + 3) (by omega) (by omega)
  exact ⟨by rw [e.1]; exact q1, by rw [e3.1]; exact q2, by rw [e.2]; exact q3, by rw [e.2]; exact q4, by rw [e.2]; exact q5, q6, q7, q8.mv (fun z h1 h2 => hu z (by omega) (by omega)), fun i h1 h2 h3 => ⟨by rw [e3.2]; exact (q9 i h1 h2 h3).1, (q9 i h1 h2 h3).2.1.mv (hk i h1 h2 h3), (q9 i h1 h2 h3).2.2⟩⟩
theorem pev.mv {sh sh' : s_S} {M M' : s_M} {p : Int} (h : pev sh M p) (hu : as_ p (p + 5) sh M sh' M') : pev sh' M' p := by
  obtain ⟨q1, q2, q3, q4, q5, q6, q7, q8, q9, q10⟩ := h
  have e := hu p (by omega) (by omega)
  exact ⟨by rw [e.1]; exact q1, by rw [(hu (p + 1) (by omega) (by omega)).1]; exact q2, by rw [(hu (p + 2) (by omega) (by omega)).1]; exact q3, by rw [(hu (p + 3) (by omega) (by omega)).1]; exact q4, by rw [(hu (p + 4) (by omega) (by omega)).1]; exact q5, by rw [e.2]; exact q6, by rw [e.2]; exact q7, by rw [e.2]; exact q8, by rw [e.2]; exact q9, q10⟩
theorem mcv.mv {sh sh' : s_S} {M M' : s_M} {p s c k g w : Int} {O Q Z G : Int → Int} (h : mcv sh M p s c k g w O Q Z G) (hu : as_ p (p + 10) sh M sh' M') : mcv sh' M' p s c k g w O Q Z G := by
  obtain ⟨q1, ⟨a1, a2, a3, a4⟩, ⟨b1, b2, b3, b4, b5⟩, ⟨c1, c2, c3, c4, c5, c6, c7, c8, c9, c10⟩, q5, ⟨d1, d2, d3, d4⟩, q7⟩ := h
  have e := hu p (by omega) (by omega)
  have e6 := hu (p + 6) (by omega) (by omega)
  have e7 := hu (p + 7) (by omega) (by omega)
  have e8 := hu (p + 8) (by omega) (by omega)
  have e9 := hu (p + 9) (by omega) (by omega)
  refine ⟨by rw [e.1]; exact q1, ⟨by rw [e6.1]; exact a1, by rw [e7.1]; exact a2, by rw [e8.1]; exact a3, by rw [e9.1]; exact a4⟩, ?_, ?_, q5.mv (fun z h1 h2 => hu z (by omega) (by omega)), ⟨by rw [e6.2]; exact d1, by rw [e7.2]; exact d2, by rw [e8.2]; exact d3, by rw [e9.2]; exact d4⟩, q7⟩
  · rw [e.2]; exact ⟨b1, b2, b3, b4, b5⟩
  · rw [e.2]; exact ⟨c1, c2, c3, c4, c5, c6, c7, c8, c9, c10⟩
theorem mcx.mv {sh sh' : s_S} {M M' : s_M} {p s c k g w : Int} {O Q Z G : Int → Int} {t1 t2 t3 : List Int} {v1 v2 : sva} (h : mcx sh M p s c k g w O Q Z G t1 t2 t3 v1 v2) (hu : as_ p (p + 22) sh M sh' M') : mcx sh' M' p s c k g w O Q Z G t1 t2 t3 v1 v2 := by
  obtain ⟨q1, q2, q3, q4, q5, q6⟩ := h
  exact ⟨q1.mv (fun z h1 h2 => hu z (by omega) (by omega)), q2.mv (fun z h1 h2 => hu z (by omega) (by omega)), q3.mv (fun z h1 h2 => hu z (by omega) (by omega)), q4.mv (fun z h1 h2 => hu z (by omega) (by omega)), q5.mv (fun z h1 h2 => hu z (by omega) (by omega)), q6.mv (fun z h1 h2 => hu z (by omega) (by omega))⟩
theorem pg0.mv {sh sh' : s_S} {M M' : s_M} {p n : Int} {t : List Int} (h : pg0 sh M p n t) (hu : as_ p (p + 4) sh M sh' M') : pg0 sh' M' p n t := by
  obtain ⟨q1, q2, q3, q4, q5, q6, q7, q8⟩ := h
  have e := hu p (by omega) (by omega)
  have e3 := hu (p + 3) (by omega) (by omega)
  exact ⟨by rw [e.1]; exact q1, by rw [e3.1]; exact q2, by rw [e.2]; exact q3, by rw [e.2]; exact q4, by rw [e.2]; exact q5, q6, q7, q8.mv (fun z h1 h2 => hu z (by omega) (by omega))⟩
