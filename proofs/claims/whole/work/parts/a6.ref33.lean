/-- what a whole item may change -/
def exA (S S' : s_M) : Prop := ∀ q j : Int, ¬ (q = 1 ∨ (3 ≤ q ∧ q ≤ 9)) → ¬ (q = 0 ∧ (j = 6 ∨ j = 11 ∨ (17 ≤ j ∧ j ≤ 21))) → S' q j = S q j
theorem exA.refl (S : s_M) : exA S S := fun _ _ _ _ => rfl
theorem exA.trans {A B C : s_M} (h1 : exA A B) (h2 : exA B C) : exA A C := fun q j a b => (h2 q j a b).trans (h1 q j a b)
theorem exRd.exA {S S' : s_M} (h : exRd S S') : exA S S' := fun q j a b => h q j (by omega) (by omega) (by omega) (by omega)
theorem exT.exA {S S' : s_M} (h : exT S S') : exA S S' := fun q j a b => h q j (by omega) (by omega)
def fT (T T' : Int → List Int) : Prop := ∀ q : Int, 62 ≤ q → q ≠ 82 → T' q = T q
theorem fT.refl (T : Int → List Int) : fT T T := fun _ _ _ => rfl
theorem fT.trans {A B C : Int → List Int} (h1 : fT A B) (h2 : fT B C) : fT A C := fun q a b => (h2 q a b).trans (h1 q a b)
theorem EX.exr {S S' : s_M} {T T' : Int → List Int} {E : Int → sen} {n : Int} (h : EX S T E n) (e : exRd S S') (eT : ∀ q : Int, q ≠ 82 → T' q = T q) : EX S' T' E n := h.exg (fun q j z => e q j (by omega) (by omega) (by omega) (by omega)) (fun q z => eT q (by omega))
theorem srx.exa {S S' : s_M} {t : List Int} (h : srx S t) (e : exA S S') : srx S' t := h.ex (fun q j z => e q j (by omega) (by omega))
/-- what an item comes to, beside the program's r -/
def itK (S S' : s_M) (T T' : Int → List Int) (t : List Int) (a : Int) (r : tiT) : Prop := TX S' T' ∧ sts S' T' r.2.1.2.1 r.2.1.2.2.1 (r.2.1.1 5) ∧ WX S' (if r.1 = true then r.2.1.2.2.2.2 else inc r.2.1.2.2.2.2 1) ∧ EX S' T' r.2.2.1 r.2.2.2 ∧ S' 0 17 = r.2.1.1 6 ∧ S' 0 21 = S 0 21 + (if r.1 = true then 0 else 1) ∧ exA S S' ∧ fT T T' ∧ (a ≤ r.2.1.1 6 ∧ r.2.1.1 6 ≤ (t.length : Int))
/-- an item that comes to no more than its reading -/
theorem itK.rd {S S' : s_M} {T T' : Int → List Int} {t : List Int} {a : Int} {W : Int → Int} {Y : Int → List Int} {V WN : Int → Int} {v : List Int} {E : Int → sen} {n : Int} {ok : Bool} (h : rdR S S' T T' WN ok (V 6)) (hst : sts S T W Y (V 5)) (hE : EX S T E n) (ha : a ≤ V 6 ∧ V 6 ≤ (t.length : Int)) : itK S S' T T' t a (ok, (V, W, Y, v, WN), E, n) := by
  obtain ⟨h1, h2, h3, h4, h5, h6, h7⟩ := h
  exact ⟨h1, hst.ex h3 h2, h4, hE.exr h3 h2, h5, h7, h3.exA, fun q _ z => h2 q z, ha⟩
theorem sts.put {S S' : s_M} {T T' : Int → List Int} {W : Int → Int} {Y : Int → List Int} {nr k : Int} {v : List Int} (h : sts S T W Y nr) (hk : 0 ≤ k ∧ k < nr) (e11 : S' 0 11 = S 0 11) (e9 : ∀ j : Int, S' 9 j = S 9 j) (eT : ∀ q : Int, q ≠ 54 + k → T' q = T q) (ek : T' (54 + k) = v) (hv : prt v) (hl : v.length ≤ 60) : sts S' T' W (lset Y k v) nr := by
  obtain ⟨h1, h2, h3, h4, h5⟩ := h
  refine ⟨e11.trans h1, h2, fun e e0 e1 => ?_, h4, fun j j0 j1 => ?_⟩
  · obtain ⟨a1, a2, a3, a4⟩ := h3 e e0 e1
    by_cases c : e = k
    · rw [c, lset_at]
      exact ⟨by rw [e9, ← c]; exact a1, ek, hv, hl⟩
    · rw [lset_ne c]
      exact ⟨(e9 e).trans a1, (eT _ (by omega)).trans a2, a3, a4⟩
  · by_cases c : j = k
    · rw [c, lset_at]
      exact hl
    · rw [lset_ne c]
      exact h5 j j0 j1
theorem dst_add {W : Int → Int} {n w : Int} (h : dst_ W n) (hn : ∀ j : Int, 0 ≤ j → j < n → W j ≠ w) : dst_ (rset W n w) (n + 1) := fun i j i0 i1 j0 j1 e => by
  by_cases ci : i = n
  · by_cases cj : j = n
    · omega
    · rw [ci, rset_at, rset_ne cj] at e
      exact absurd e.symm (hn j j0 (by omega))
  · by_cases cj : j = n
    · rw [cj, rset_at, rset_ne ci] at e
      exact absurd e (hn i i0 (by omega))
    · rw [rset_ne ci, rset_ne cj] at e
      exact h i j i0 (by omega) j0 (by omega) e
theorem sts.add {S S' : s_M} {T T' : Int → List Int} {W : Int → Int} {Y : Int → List Int} {nr w : Int} {v : List Int} (h : sts S T W Y nr) (hk : nr < 8) (hw : ∀ j : Int, 0 ≤ j → j < nr → W j ≠ w) (e11 : S' 0 11 = nr + 1) (e9 : ∀ j : Int, j ≠ nr → S' 9 j = S 9 j) (ew : S' 9 nr = w) (eT : ∀ q : Int, q ≠ 54 + nr → T' q = T q) (ek : T' (54 + nr) = v) (hv : prt v) (hl : v.length ≤ 60) : sts S' T' (rset W nr w) (lset Y nr v) (nr + 1) := by
  obtain ⟨h1, h2, h3, h4, h5⟩ := h
  refine ⟨e11, by omega, fun e e0 e1 => ?_, dst_add h4 hw, fun j j0 j1 => ?_⟩
  · by_cases c : e = nr
    · rw [c, lset_at, rset_at]
      exact ⟨ew, ek, hv, hl⟩
    · obtain ⟨a1, a2, a3, a4⟩ := h3 e e0 (by omega)
      rw [lset_ne c, rset_ne c]
      exact ⟨(e9 e c).trans a1, (eT _ (by omega)).trans a2, a3, a4⟩
  · by_cases c : j = nr
    · rw [c, lset_at]
      exact hl
    · rw [lset_ne c]
      exact h5 j j0 j1
theorem fx_no {W : Int → Int} {n w : Int} (h : fx W n w < 0) : ∀ j : Int, 0 ≤ j → j < n → W j ≠ w := fun j j0 j1 e => by
  have := fx_yes (W := W) (n := n) (w := w) ⟨j0, j1⟩ e
  omega
theorem p_string {N : Nat} (hN : 1000 ≤ N) {t v : List Int} {W : Int → Int} {Y : Int → List Int} {p n : Int} {E : Int → sen} {S : s_M} {T : Int → List Int} {V WN : Int → Int} (ht : TX S T) (hs : srx S t) (hst : sts S T W Y (V 5)) (hw : WX S WN) (h17 : S 0 17 = V 6) (h0 : 0 ≤ V 6 ∧ V 6 ≤ (t.length : Int)) (h18 : S 0 18 = 0) (h21 : 0 ≤ S 0 21 ∧ S 0 21 < 999) (hE : EX S T E n) : ∃ S' T', A_string N S = some (0, S') ∧ itK S S' T T' t (V 6) ((tsf t W Y p v V WN).1, (tsf t W Y p v V WN).2, E, n) := by
  have h320 := hs.2.1
  obtain ⟨S1, T1, hk, rd, rg, hok⟩ := p_wv (N := N) (p := p) (v := v) hN ht hs hst hw h17 h0 h18 (by omega)
  have w5 := (wv1_ok (W := W) (p := p) (v := v) (WN := WN) (t := t) (V := V) (Y := Y) ⟨h0, hst.2.1⟩ h320 hst.2.2.2.2).2.1
  unfold tsf
  obtain ⟨q, hq⟩ : ∃ q, q = wv1 t W Y p v V WN := ⟨_, rfl⟩
  rw [← hq] at hk rd rg hok w5 ⊢
  have rd0 := rd
  obtain ⟨b1, b2, b3, b4, b5, b6, b7⟩ := rd
  rw [A_string_e]
  have hst1 : sts S T W Y (q.2.2.2.1 5) := by rw [w5]; exact hst
  by_cases c : q.1 = true
  · rw [if_pos c] at b4 b6 b7 ⊢
    obtain ⟨o1, o2, o3, o4⟩ := hok c
    have hs1 : srx S1 t := hs.exr b3
    have h21' : S1 0 21 = S 0 21 := by omega
    have hx := p_expect (N := N) hN (c := 125) hs1 (by decide) b5 (by omega) b6 (by omega)
    have htr := tsk_rng (t := t) (c := 125) (i := q.2.2.2.1 6) (by omega) (by decide)
    have s6 : sgV t 125 q.2.2.2.1 6 = (tsk t 125 (q.2.2.2.1 6)).2 := by simp [sgV, rset]
    have s5 : sgV t 125 q.2.2.2.1 5 = V 5 := by
      rw [← w5]
      simp [sgV, rset]
    have ht1 : TX (m_s S1 0 17 (tsk t 125 (q.2.2.2.1 6)).2) T1 := b1.ex (fun q j z => m_sk (by omega))
    have hw1 := b4.exw (exW.at (x := (tsk t 125 (q.2.2.2.1 6)).2))
    by_cases d : (tsk t 125 (q.2.2.2.1 6)).1 = true
    · rw [if_pos d] at hx
      rw [if_pos d]
      have k18 : m_s S1 0 17 (tsk t 125 (q.2.2.2.1 6)).2 0 18 = 0 := (m_sj (by decide)).trans b6
      have x2 : exRd S (m_s S1 0 17 (tsk t 125 (q.2.2.2.1 6)).2) := b3.trans exW.at.exRd
      have hst2 : sts (m_s S1 0 17 (tsk t 125 (q.2.2.2.1 6)).2) T1 W Y (V 5) := hst.ex x2 b2
      have hE2 : EX (m_s S1 0 17 (tsk t 125 (q.2.2.2.1 6)).2) T1 E n := hE.exr x2 b2
      have hfs := p_findString (N := N) (by omega) (w := q.2.1) hst2.1 hst2.2.1 (fun e0 z0 z1 => (hst2.2.2.1 e0 z0 z1).1) hst2.2.2.2.1
      have hl82 := (b1.len (k := 82) (by decide)).2
      have h17b : m_s S1 0 17 (tsk t 125 (q.2.2.2.1 6)).2 0 17 = sgV t 125 q.2.2.2.1 6 := by rw [m_s_s, s6]
      have h21b : m_s S1 0 17 (tsk t 125 (q.2.2.2.1 6)).2 0 21 = S 0 21 := (m_sj (by decide)).trans h21'
      obtain ⟨S2, hS2⟩ : ∃ S2, S2 = m_s S1 0 17 (tsk t 125 (q.2.2.2.1 6)).2 := ⟨_, rfl⟩
      rw [← hS2] at hx ht1 hw1 k18 x2 hst2 hE2 hfs h17b h21b
      rw [o1] at hl82
      have st := hk (fun v21 S36 => bnd (A_expect N 125 S36) fun v42 S43 => if (S43 0 18) = 0 then (bnd (A_findString N v21 S43) fun v51 S52 => if v51 < 0 then (if (S52 0 11) = 8 then (bnd (A_warn N 5 S52) fun v64 S65 => some (0, S65)) else (A_string_j54 N v21 v51 S52)) else (A_string_j54 N v21 v51 S52)) else (some (0, S43)))
      rw [st]
      dsimp only
      rw [bnd_e hx, if_pos k18, bnd_e hfs, hst2.1]
      have rg2 : V 6 ≤ sgV t 125 q.2.2.2.1 6 ∧ sgV t 125 q.2.2.2.1 6 ≤ (t.length : Int) := by omega
      have hfr := fx_rng (W := W) (n := V 5) (w := q.2.1) hst.2.1.1
      unfold ksV ksW ksY ksN
      rw [s5]
      by_cases f : 0 ≤ fx W (V 5) q.2.1
      · rw [if_neg (by omega), A_string_j54_e, if_neg (by omega), A_string_j80_e, chk_e (by have := hst.2.1; omega)]
        obtain ⟨S3, d1, d2, d3⟩ := p_copy (N := N) (by omega) ht1 (a := 82) (b := 54 + fx W (V 5) q.2.1) (by decide) (by have := hst.2.1; omega)
        rw [bnd_e d1, if_pos f, if_pos f, if_pos f, if_pos f]
        refine ⟨S3, _, rfl, d2, ?_, ?_, ?_, ?_, ?_, x2.exA.trans d3.exA, ?_, rg2⟩
        · show sts S3 _ W (lset Y _ q.2.2.1) (sgV t 125 q.2.2.2.1 5)
          rw [s5]
          exact hst2.put ⟨f, by omega⟩ (d3 0 11 (by decide) (by decide)) (fun j => d3 9 j (by decide) (by decide)) (fun z y => lset_ne y) (by rw [lset_at, o1]) o2 hl82
        · show WX S3 (if true = true then q.2.2.2.2 else _)
          rw [if_pos rfl]
          exact hw1.ex (fun j => d3 1 j (by decide) (by decide))
        · exact hE2.exg (fun z j y => d3 z j (by omega) (by omega)) (fun z y => lset_ne (by omega))
        · exact (d3 0 17 (by decide) (by decide)).trans h17b
        · show S3 0 21 = S 0 21 + (if true = true then 0 else 1)
          rw [if_pos rfl, d3 0 21 (by decide) (by decide), h21b, Int.add_zero]
        · exact fun z y1 y2 => (lset_ne (by have := hst.2.1; omega)).trans (b2 z y2)
      · rw [if_pos (show fx W (V 5) q.2.1 < 0 by omega), if_neg f, if_neg f, if_neg f, if_neg f]
        by_cases g : V 5 = 8
        · rw [if_pos g, bnd_e (p_warn (by decide)), if_pos (by omega), if_pos (by omega), if_pos (by omega), if_pos (by omega)]
          have x3 : exRd S2 (m_s S2 1 5 (wi32 (S2 1 5 + 1))) := fun z j y1 y2 y3 y4 => m_sk y1
          refine ⟨_, T1, rfl, ht1.ex (fun z j y => m_sk (by omega)), ?_, ?_, hE2.exr x3 (fun _ _ => rfl), ?_, ?_, x2.exA.trans x3.exA, fun z y1 y2 => b2 z y2, rg2⟩
          · show sts _ T1 W Y (sgV t 125 q.2.2.2.1 5)
            rw [s5]
            exact hst2.ex x3 (fun _ _ => rfl)
          · show WX _ (if true = true then inc q.2.2.2.2 5 else _)
            rw [if_pos rfl]
            exact hw1.bump (by decide)
          · exact (m_sk (by decide)).trans h17b
          · show m_s S2 1 5 (wi32 (S2 1 5 + 1)) 0 21 = S 0 21 + (if true = true then 0 else 1)
            rw [if_pos rfl, m_sk (by decide), h21b, Int.add_zero]
        · have hlt : V 5 < 8 := by have := hst.2.1; omega
          rw [if_neg g, A_string_j54_e, if_pos (show fx W (V 5) q.2.1 < 0 by omega), hst2.1, chk_e (by have := hst.2.1; omega), chk_e (by have := hst.2.1; omega), A_string_j80_e, chk_e (by have := hst.2.1; omega), if_neg (by omega), if_neg (by omega), if_neg (by omega), if_neg (by omega)]
          have ht2 : TX (m_s (m_s S2 9 (V 5) q.2.1) 0 11 (V 5 + 1)) T1 := ht1.ex (fun z j y => by rw [m_sk (by omega), m_sk (by omega)])
          obtain ⟨S3, d1, d2, d3⟩ := p_copy (N := N) (by omega) ht2 (a := 82) (b := 54 + V 5) (by decide) (by have := hst.2.1; omega)
          rw [bnd_e d1]
          have k9 : ∀ z j : Int, z ≠ 9 → ¬ (z = 0 ∧ j = 11) → m_s (m_s S2 9 (V 5) q.2.1) 0 11 (V 5 + 1) z j = S2 z j := fun z j y1 y2 => by
            rw [m_s_n y2, m_sk y1]
          refine ⟨S3, _, rfl, d2, ?_, ?_, ?_, ?_, ?_, ?_, ?_, ?_⟩
          · show sts S3 _ (rset W (V 5) q.2.1) (lset Y (V 5) q.2.2.1) (rset (sgV t 125 q.2.2.2.1) 5 (V 5 + 1) 5)
            rw [rset_at]
            exact hst2.add hlt (fx_no (by omega)) ((d3 0 11 (by decide) (by decide)).trans m_s_s) (fun j y => (d3 9 j (by decide) (by decide)).trans ((m_sk (by decide)).trans (m_sj y))) ((d3 9 _ (by decide) (by decide)).trans ((m_sk (by decide)).trans m_s_s)) (fun z y => lset_ne y) (by rw [lset_at, o1]) o2 hl82
          · show WX S3 (if true = true then q.2.2.2.2 else _)
            rw [if_pos rfl]
            exact hw1.ex (fun j => (d3 1 j (by decide) (by decide)).trans (k9 1 j (by decide) (by omega)))
          · exact hE2.exg (fun z j y => (d3 z j (by omega) (by omega)).trans (k9 z j (by omega) (by omega))) (fun z y => lset_ne (by have := hst.2.1; omega))
          · show S3 0 17 = rset (sgV t 125 q.2.2.2.1) 5 (V 5 + 1) 6
            rw [rset_ne (by decide)]
            exact (d3 0 17 (by decide) (by decide)).trans ((k9 0 17 (by decide) (by omega)).trans h17b)
          · show S3 0 21 = S 0 21 + (if true = true then 0 else 1)
            rw [if_pos rfl, d3 0 21 (by decide) (by decide), k9 0 21 (by decide) (by omega), h21b, Int.add_zero]
          · exact (x2.exA.trans (fun z j y1 y2 => k9 z j (by omega) (by omega))).trans d3.exA
          · exact fun z y1 y2 => (lset_ne (by have := hst.2.1; omega)).trans (b2 z y2)
          · show V 6 ≤ rset (sgV t 125 q.2.2.2.1) 5 (V 5 + 1) 6 ∧ rset (sgV t 125 q.2.2.2.1) 5 (V 5 + 1) 6 ≤ (t.length : Int)
            rw [rset_ne (by decide)]
            exact rg2
    · rw [if_neg d] at hx
      rw [if_neg d]
      refine ⟨oth (m_s S1 0 17 (tsk t 125 (q.2.2.2.1 6)).2), T1, (hk _).trans ?_, itK.rd (V := sgV t 125 q.2.2.2.1) ?_ (by rw [s5]; exact hst) hE (by omega)⟩
      · rw [bnd_e hx, if_neg (by rw [oth_18]; decide)]
      · rw [s6]
        exact rdR.no ht1 b2 (b3.trans exW.at.exRd) hw1 m_s_s ((m_sj (by decide)).trans h21')
  · rw [if_neg c]
    have c0 : q.1 = false := eq_false_of_ne_true c
    rw [if_neg c] at b6
    refine ⟨S1, T1, (hk _).trans ?_, itK.rd (V := q.2.2.2.1) ?_ hst1 hE rg⟩
    · rw [bnd_e (p_expx (by rw [b6]; decide)), if_neg (by rw [b6]; decide)]
    · rw [← c0]
      exact rd0
