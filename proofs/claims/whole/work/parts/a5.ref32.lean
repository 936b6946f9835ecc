theorem rdR.after {S0 S S' : s_M} {T0 T T' : Int → List Int} {WN : Int → Int} {ok : Bool} {pl : Int} (x : exRd S0 S) (e : S 0 21 = S0 0 21) (eT : ∀ q : Int, q ≠ 82 → T q = T0 q) (h : rdR S S' T T' WN ok pl) : rdR S0 S' T0 T' WN ok pl := by
  obtain ⟨h1, h2, h3, h4, h5, h6, h7⟩ := h
  exact ⟨h1, fun q z => (h2 q z).trans (eT q z), x.trans h3, h4, h5, h6, by rw [h7, e]⟩
theorem pbl_nb {t : List Int} : ∀ (m : Nat) (i : Int), i + m = (t.length : Int) → p_bl (tg t (pbl t m i)) = false
  | 0, i, h => by
    show p_bl (tg t i) = false
    rw [tg_out (by omega)]
    rfl
  | m + 1, i, h => by
    have e : pbl t (m + 1) i = if p_bl (tg t i) = true then pbl t m (i + 1) else i := rfl
    rw [e]
    by_cases c : p_bl (tg t i) = true
    · rw [if_pos c]
      exact pbl_nb m (i + 1) (by omega)
    · rw [if_neg c]
      exact eq_false_of_ne_true c
theorem pbl_id {t : List Int} : ∀ (m : Nat) (i : Int), p_bl (tg t i) = false → pbl t m i = i
  | 0, i, h => rfl
  | m + 1, i, h => by
    show (if p_bl (tg t i) = true then pbl t m (i + 1) else i) = i
    rw [if_neg (by rw [h]; decide)]
theorem pb_nb {t : List Int} {i : Int} (h : i ≤ (t.length : Int)) : p_bl (tg t (pb t i)) = false := pbl_nb _ i (by omega)
theorem pb_id {t : List Int} {i : Int} (h : p_bl (tg t i) = false) : pb t i = i := pbl_id _ i h
theorem pb_pb {t : List Int} {i : Int} (h : i ≤ (t.length : Int)) : pb t (pb t i) = pb t i := pb_id (pb_nb h)
theorem srx.exr {S S' : s_M} {t : List Int} (h : srx S t) (e : exRd S S') : srx S' t := h.ex (fun q j z => e q j (by omega) (by omega) (by omega) (by omega))
theorem tpc_pl {t : List Int} {W : Int → Int} {Y : Int → List Int} {p : Int} {V WN : Int → Int} (h : vok t V) (ht : t.length ≤ 320) : vok t (tpc t W Y p V WN).2.1 ∧ (tpc t W Y p V WN).2.1 5 = V 5 := by
  have hb := pbV_ok h
  have e5 : pbV t V 5 = V 5 := by simp [pbV, rset]
  unfold tpc
  split
  · have := bkV_ok (p := p) hb ht
    exact ⟨this.1, this.2.1.trans e5⟩
  · split
    · have := qkV_ok (p := p) hb ht
      exact ⟨this.1, this.2.1.trans e5⟩
    · split
      · have := dgV_ok (p := p) hb ht
        exact ⟨this.1, this.2.1.trans e5⟩
      · have hw := wdV_ok hb
        split
        · exact ⟨hw.1, hw.2.trans e5⟩
        · have e : tmV W Y p (tkw t (pbV t V 6)).1 (wdV t (pbV t V)) 6 = wdV t (pbV t V) 6 ∧ tmV W Y p (tkw t (pbV t V 6)).1 (wdV t (pbV t V)) 5 = wdV t (pbV t V) 5 := by
            unfold tmV
            split <;> simp [spV, rset]
          have g6 : 0 ≤ tmV W Y p (tkw t (pbV t V 6)).1 (wdV t (pbV t V)) 6 ∧ tmV W Y p (tkw t (pbV t V 6)).1 (wdV t (pbV t V)) 6 ≤ (t.length : Int) := by
            rw [e.1]
            exact hw.1.1
          have g5 : 0 ≤ tmV W Y p (tkw t (pbV t V 6)).1 (wdV t (pbV t V)) 5 ∧ tmV W Y p (tkw t (pbV t V 6)).1 (wdV t (pbV t V)) 5 ≤ 8 := by
            rw [e.2]
            exact hw.1.2
          exact ⟨⟨g6, g5⟩, e.2.trans (hw.2.trans e5)⟩
/-- what a value comes to, beside the program's q -/
def rvK (S S' : s_M) (T T' : Int → List Int) (t : List Int) (a : Int) (q : Bool × tvT) : Prop := rdR S S' T T' (tvW q) q.1 (q.2.2.1 6) ∧ (a ≤ q.2.2.1 6 ∧ q.2.2.1 6 ≤ (t.length : Int)) ∧ (q.1 = true → T' 82 = q.2.1 ∧ prt q.2.1 ∧ pb t (q.2.2.1 6) = q.2.2.1 6)
theorem p_rvl {N : Nat} (hN : 1000 ≤ N) {t : List Int} {W : Int → Int} {Y : Int → List Int} {p : Int} : ∀ (m n : Nat) (b : Bool) (S : s_M) (T : Int → List Int) (v : List Int) (V WN : Int → Int) (F : Int), TX S T → srx S t → sts S T W Y (V 5) → WX S WN → S 0 17 = V 6 → 0 ≤ V 6 ∧ V 6 ≤ (t.length : Int) → S 0 18 = 0 → 0 ≤ S 0 21 ∧ S 0 21 < 1000 → fdk S T v (V 12) (V 13) F → prt v → bok V → (b = true → 321 ≤ V 6 + m) → (b = false → pb t (V 6) = V 6) → F + 640 * m ≤ 204800 → m + 1 < n → ∃ S' T', A_readValue_l29 N n (s_b b) S = some (0, S') ∧ rvK S S' T T' t (V 6) (tvl t W Y p m b (v, V, WN))
  | m, 0, b, S, T, v, V, WN, F, ht, hs, hst, hw, h17, h0, h18, h21, hf, hv, hbk, hb1, hb0, hF, hn => absurd hn (Nat.not_lt_zero _)
  | m, n + 1, false, S, T, v, V, WN, F, ht, hs, hst, hw, h17, h0, h18, h21, hf, hv, hbk, hb1, hb0, hF, hn => by
    rw [tvl_st, A_readValue_l29_e, if_pos s_b_f, if_pos h18, hf.2.2.1]
    have t82 := hf.1
    have h6 := hf.2.2.2.2.2
    by_cases c : 60 < F
    · have hW : tvW (true, ((v, V, WN) : tvT)) = inc WN 3 := if_pos ⟨rfl, h6.mpr c⟩
      rw [if_pos c, bnd_e (p_warn (by decide)), A_readValue_j112_e]
      refine ⟨_, T, rfl, ?_, ⟨Int.le_refl _, h0.2⟩, fun _ => ⟨t82, hv, hb0 rfl⟩⟩
      rw [hW]
      exact rdR.ok (ht.ex (fun q j z => m_sk (by omega))) (fun _ _ => rfl) (fun q j a b c d => m_sk a) (hw.bump (by decide)) ((m_sk (by decide)).trans h17) ((m_sk (by decide)).trans h18) (m_sk (by decide))
    · have hW : tvW (true, ((v, V, WN) : tvT)) = WN := if_neg (fun z => c (h6.mp z.2))
      rw [if_neg c, A_readValue_j112_e]
      refine ⟨S, T, rfl, ?_, ⟨Int.le_refl _, h0.2⟩, fun _ => ⟨t82, hv, hb0 rfl⟩⟩
      rw [hW]
      exact rdR.ok ht (fun _ _ => rfl) (exRd.refl S) hw h17 h18 rfl
  | 0, n + 1, true, S, T, v, V, WN, F, ht, hs, hst, hw, h17, h0, h18, h21, hf, hv, hbk, hb1, hb0, hF, hn => by
    have h320 := hs.2.1
    have := hb1 rfl
    omega
  | m + 1, n + 1, true, S, T, v, V, WN, F, ht, hs, hst, hw, h17, h0, h18, h21, hf, hv, hbk, hb1, hb0, hF, hn => by
    have h320 := hs.2.1
    have hm1 := hb1 rfl
    obtain ⟨S1, T1, F1, a1, a2, f4, a3⟩ := p_piece (N := N) (p := p) (Y := Y) hN ht hs hst hw h17 h0 h18 h21 hf (by omega) hv
    obtain ⟨b1, b2, b3, b4, b5, b6, b7⟩ := a2
    have e : tvl t W Y p (m + 1) true (v, V, WN) = if (tv1 t W Y p (v, V, WN)).1 = true then tvl t W Y p m (tv1 t W Y p (v, V, WN)).2.1 (tv1 t W Y p (v, V, WN)).2.2 else (false, (tv1 t W Y p (v, V, WN)).2.2) := if_pos rfl
    rw [A_readValue_l29_e, if_neg (show ¬ s_b true = 0 by decide), bnd_e a1, e]
    obtain ⟨n', en⟩ : ∃ n', n = n' + 1 := ⟨n - 1, by omega⟩
    by_cases c : (tpc t W Y p V WN).1 = true
    · obtain ⟨f1, f2, f3⟩ := a3 c
      rw [if_pos c] at b4 b6 b7
      have e1 : tv1 t W Y p (v, V, WN) = (true, (tsk t 35 ((tvA t W Y p (v, V, WN)).2 6)).1, ((tvA t W Y p (v, V, WN)).1, sgV t 35 (tvA t W Y p (v, V, WN)).2, (tpc t W Y p V WN).2.2)) := if_pos c
      have hvb := tpc_b (t := t) (W := W) (Y := Y) (p := p) (WN := WN) hbk
      obtain ⟨g1, g2, g3⟩ := apc_ok (u := ptx t Y p (tpc t W Y p V WN).2.1) (b := (tpc t W Y p V WN).2.1 9) (e := (tpc t W Y p V WN).2.1 10) (v := v) hvb.1 hvb.2
      have eA : tvA t W Y p (v, V, WN) = apc (ptx t Y p (tpc t W Y p V WN).2.1) ((tpc t W Y p V WN).2.1 9) ((tpc t W Y p V WN).2.1 10) (v, (tpc t W Y p V WN).2.1) := rfl
      obtain ⟨A, hA⟩ : ∃ A, A = tvA t W Y p (v, V, WN) := ⟨_, rfl⟩
      rw [← eA, ← hA] at f1 f3 g1 g2 g3
      rw [← hA] at e1
      have hok := tpc_pl (W := W) (Y := Y) (p := p) (WN := WN) (V := V) (t := t) ⟨h0, hst.2.1⟩ h320
      obtain ⟨pl, hpl⟩ : ∃ pl, pl = (tpc t W Y p V WN).2.1 6 := ⟨_, rfl⟩
      have a6 : A.2 6 = pl := (g1 6 (by decide) (by decide)).trans hpl.symm
      have hplr : pl ≤ (t.length : Int) := by
        rw [hpl]
        exact hok.1.1.2
      have a5 : A.2 5 = V 5 := (g1 5 (by decide) (by decide)).trans hok.2
      rw [← hpl] at b5 f4
      have hb := p_blanks (N := N) hN (hs.exr b3) b5 ⟨by omega, hplr⟩
      have hq := pb_in (t := t) hplr
      have hs2 : srx (m_s S1 0 17 (pb t pl)) t := (hs.exr b3).at
      have hh := p_here (N := N) hs2 m_s_s (by omega)
      have k18 : m_s S1 0 17 (pb t pl) 0 18 = 0 := (m_sj (by decide)).trans b6
      have k21 : S1 0 21 = S 0 21 := by omega
      rw [if_pos b6, bnd_e hb, A_readValue_j48_e, if_pos k18, bnd_e hh, if_pos (show (tv1 t W Y p (v, V, WN)).1 = true by rw [e1]), e1, a6]
      have hst1 : sts S1 T1 W Y (V 5) := hst.ex b3 b2
      by_cases d : tg t (pb t pl) = 35
      · have hin : pb t pl < (t.length : Int) := by
          by_cases w : pb t pl < (t.length : Int)
          · exact w
          · rw [(hr_out w).2] at d
            exact absurd d (by decide)
        have et : tsk t 35 pl = (true, pb t pl + 1) := if_pos d
        have s6 : sgV t 35 A.2 6 = pb t pl + 1 := by
          have : sgV t 35 A.2 6 = (tsk t 35 (A.2 6)).2 := by simp [sgV, rset]
          rw [this, a6, et]
        have s5 : sgV t 35 A.2 5 = V 5 := by
          rw [← a5]
          simp [sgV, rset]
        have s12 : sgV t 35 A.2 12 = A.2 12 ∧ sgV t 35 A.2 13 = A.2 13 := by simp [sgV, rset]
        rw [if_pos ((hr_eq (by decide)).mpr d), A_readValue_j69_e, m_s_s, if_neg (by decide), chk_e (by omega), m_s_twice, et]
        obtain ⟨S2, T2, c1, c2, c3⟩ := p_rvl (N := N) hN (t := t) (W := W) (Y := Y) (p := p) m n true (m_s S1 0 17 (pb t pl + 1)) T1 A.1 (sgV t 35 A.2) (tpc t W Y p V WN).2.2 F1 (b1.ex (fun q j z => m_sk (by omega))) (hs.exr b3).at (by rw [s5]; exact hst1.ex exW.at.exRd (fun _ _ => rfl)) (b4.exw exW.at) (by rw [m_s_s, s6]) (by rw [s6]; omega) ((m_sj (by decide)).trans b6) (by rw [m_sj (by decide), k21]; exact h21) (f1.at.cg s12.1 s12.2) f3 (by
          unfold bok
          rw [s12.1, s12.2]
          exact ⟨g2, g3⟩) (fun _ => by rw [s6]; omega) (fun z => Bool.noConfusion z) (by omega) (by omega)
        rw [s6] at c3
        exact ⟨S2, T2, c1, c2.after (b3.trans exW.at.exRd) ((m_sj (by decide)).trans k21) b2, ⟨Int.le_trans (by omega) c3.1.1, c3.1.2⟩, c3.2⟩
      · have et : tsk t 35 pl = (false, pb t pl) := if_neg d
        have s6 : sgV t 35 A.2 6 = pb t pl := by
          have : sgV t 35 A.2 6 = (tsk t 35 (A.2 6)).2 := by simp [sgV, rset]
          rw [this, a6, et]
        have s5 : sgV t 35 A.2 5 = V 5 := by
          rw [← a5]
          simp [sgV, rset]
        have s12 : sgV t 35 A.2 12 = A.2 12 ∧ sgV t 35 A.2 13 = A.2 13 := by simp [sgV, rset]
        rw [if_neg (fun z => d ((hr_eq (by decide)).mp z)), A_readValue_j68_e, A_readValue_j69_e, m_s_s, if_pos rfl, Int.add_zero, chk_e (by omega), m_s_twice, et]
        obtain ⟨S2, T2, c1, c2, c3⟩ := p_rvl (N := N) hN (t := t) (W := W) (Y := Y) (p := p) m n false (m_s S1 0 17 (pb t pl)) T1 A.1 (sgV t 35 A.2) (tpc t W Y p V WN).2.2 F1 (b1.ex (fun q j z => m_sk (by omega))) (hs.exr b3).at (by rw [s5]; exact hst1.ex exW.at.exRd (fun _ _ => rfl)) (b4.exw exW.at) (by rw [m_s_s, s6]) (by rw [s6]; omega) ((m_sj (by decide)).trans b6) (by rw [m_sj (by decide), k21]; exact h21) (f1.at.cg s12.1 s12.2) f3 (by
          unfold bok
          rw [s12.1, s12.2]
          exact ⟨g2, g3⟩) (fun z => Bool.noConfusion z) (fun _ => by rw [s6]; exact pb_pb hplr) (by omega) (by omega)
        rw [s6] at c3
        exact ⟨S2, T2, c1, c2.after (b3.trans exW.at.exRd) ((m_sj (by decide)).trans k21) b2, ⟨Int.le_trans (by omega) c3.1.1, c3.1.2⟩, c3.2⟩
    · have c0 : (tpc t W Y p V WN).1 = false := eq_false_of_ne_true c
      have e1 : tv1 t W Y p (v, V, WN) = (false, false, (v, (tpc t W Y p V WN).2.1, (tpc t W Y p V WN).2.2)) := if_neg c
      have q18 : S1 0 18 = 1 := by rw [b6, if_neg c]
      have hok := tpc_pl (W := W) (Y := Y) (p := p) (WN := WN) (t := t) (V := V) ⟨h0, hst.2.1⟩ h320
      rw [if_neg (show ¬ S1 0 18 = 0 by omega), A_readValue_j48_e, if_neg (show ¬ S1 0 18 = 0 by omega), A_readValue_j68_e, A_readValue_j69_e, if_pos rfl, Int.add_zero, chk_e (by rw [b5]; have := hok.1.1; omega), m_s_self rfl, if_neg (show ¬ (tv1 t W Y p (v, V, WN)).1 = true by rw [e1]; exact fun z => Bool.noConfusion z), e1, en, A_readValue_l29_e, if_pos rfl, if_neg (show ¬ S1 0 18 = 0 by omega), A_readValue_j112_e]
      refine ⟨S1, T1, rfl, ?_, ⟨f4, hok.1.1.2⟩, fun z => Bool.noConfusion z⟩
      have hW : tvW (false, ((v, (tpc t W Y p V WN).2.1, (tpc t W Y p V WN).2.2) : tvT)) = (tpc t W Y p V WN).2.2 := if_neg (fun z => Bool.noConfusion z.1)
      rw [hW]
      rw [c0] at b4 b6 b7
      exact ⟨b1, b2, b3, b4, b5, b6, b7⟩
theorem p_readValue {N : Nat} (hN : 1000 ≤ N) {t : List Int} {W : Int → Int} {Y : Int → List Int} {p : Int} {S : s_M} {T : Int → List Int} {V WN : Int → Int} (ht : TX S T) (hs : srx S t) (hst : sts S T W Y (V 5)) (hw : WX S WN) (h17 : S 0 17 = V 6) (h0 : 1 ≤ V 6 ∧ V 6 ≤ (t.length : Int)) (h18 : S 0 18 = 0) (h21 : 0 ≤ S 0 21 ∧ S 0 21 < 1000) : ∃ S' T', A_readValue N S = some (0, S') ∧ rvK S S' T T' t (V 6) (tvf t W Y p V WN) := by
  obtain ⟨S0, hS0⟩ : ∃ S0, S0 = m_s (m_s (m_s S 3 82 0) 0 20 0) 0 19 0 := ⟨_, rfl⟩
  have x0 : exRd S S0 := fun q j a b c d => by
    rw [hS0, m_s_n (by omega), m_s_n (by omega), m_sk b]
  have ht0 : TX S0 (lset T 82 []) := (ht.clear (t := 82)).1.ex (fun q j z => by rw [hS0, m_sk (by omega), m_sk (by omega)])
  have k0 : ∀ j : Int, j ≠ 19 → j ≠ 20 → S0 0 j = S 0 j := fun j j1 j2 => by
    rw [hS0, m_sj j1, m_sj j2, m_sk (by decide)]
  have v5 : rset (rset V 12 0) 13 0 5 = V 5 := by simp [rset]
  have v6 : rset (rset V 12 0) 13 0 6 = V 6 := by simp [rset]
  have v12 : rset (rset V 12 0) 13 0 12 = 0 := by simp [rset]
  have v13 : rset (rset V 12 0) 13 0 13 = 0 := by simp [rset]
  obtain ⟨S2, T2, c1, c2, c3⟩ := p_rvl (N := N) hN (t := t) (W := W) (Y := Y) (p := p) 320 N true S0 (lset T 82 []) [] (rset (rset V 12 0) 13 0) WN 0 ht0 (hs.exr x0) (by rw [v5]; exact hst.ex x0 (fun q z => lset_ne z)) (hw.ex (fun j => by rw [hS0, m_sk (by decide), m_sk (by decide), m_sk (by decide)])) (by rw [k0 17 (by decide) (by decide), v6]; exact h17) (by rw [v6]; omega) (by rw [k0 18 (by decide) (by decide)]; exact h18) (by rw [k0 21 (by decide) (by decide)]; exact h21) (by
    rw [v12, v13]
    exact ⟨lset_at, by rw [hS0, m_s_s, if_neg (fun z => z.1 rfl)], by rw [hS0, m_sj (by decide), m_s_s], Int.le_refl _, rfl, ⟨fun z => absurd rfl z, fun z => absurd z (by decide)⟩⟩) prt_nil (by
    unfold bok
    rw [v12, v13]
    decide) (fun _ => by rw [v6]; omega) (fun z => Bool.noConfusion z) (by omega) (by omega)
  rw [v6] at c3
  have e : tvf t W Y p V WN = tvl t W Y p 320 true ([], rset (rset V 12 0) 13 0, WN) := rfl
  rw [e]
  refine ⟨S2, T2, ?_, c2.after x0 (k0 21 (by decide) (by decide)) (fun q z => lset_ne z), c3⟩
  rw [A_readValue_e, bnd_e (p_clear (by decide)), m_sk (by decide), if_pos h18, ← hS0]
  exact c1
theorem p_rvx {N : Nat} (hN : 1000 ≤ N) {S : s_M} (h18 : S 0 18 ≠ 0) : A_readValue N S = some (0, m_s (m_s (m_s S 3 82 0) 0 20 0) 0 19 0) := by
  obtain ⟨n', en⟩ : ∃ n', N = n' + 1 := ⟨N - 1, by omega⟩
  have e : A_readValue_l29 N N = A_readValue_l29 N (n' + 1) := by rw [← en]
  rw [A_readValue_e, bnd_e (p_clear (by decide)), m_sk (by decide), if_neg h18, e, A_readValue_l29_e, if_pos rfl, if_neg (by rw [m_sj (by decide), m_sj (by decide), m_sk (by decide)]; exact h18), A_readValue_j112_e]
theorem p_expx {N : Nat} {S : s_M} {c : Int} (h18 : S 0 18 ≠ 0) : A_expect N c S = some (0, S) := by
  rw [A_expect_e, if_neg h18]
/-- what a word, '=' and a value come to, beside the program's q -/
def wvK (S S' : s_M) (T T' : Int → List Int) (t : List Int) (a : Int) (q : Bool × Int × tvT) : Prop := rdR S S' T T' q.2.2.2.2 q.1 (q.2.2.2.1 6) ∧ (a ≤ q.2.2.2.1 6 ∧ q.2.2.2.1 6 ≤ (t.length : Int)) ∧ (q.1 = true → T' 82 = q.2.2.1 ∧ prt q.2.2.1 ∧ pb t (q.2.2.2.1 6) = q.2.2.2.1 6 ∧ wdk q.2.1)
/-- where it went wrong, with the value cleared -/
theorem rdR.clr {S S1 : s_M} {T T1 : Int → List Int} {WN : Int → Int} {pl : Int} (h : rdR S S1 T T1 WN false pl) : rdR S (m_s (m_s (m_s S1 3 82 0) 0 20 0) 0 19 0) T (lset T1 82 []) WN false pl := by
  obtain ⟨h1, h2, h3, h4, h5, h6, h7⟩ := h
  have k0 : ∀ j : Int, j ≠ 19 → j ≠ 20 → m_s (m_s (m_s S1 3 82 0) 0 20 0) 0 19 0 0 j = S1 0 j := fun j j1 j2 => by
    rw [m_sj j1, m_sj j2, m_sk (by decide)]
  refine ⟨(h1.clear (t := 82)).1.ex (fun q j z => by rw [m_sk (by omega), m_sk (by omega)]), fun q z => (lset_ne z).trans (h2 q z), h3.trans (fun q j a b c d => by rw [m_s_n (by omega), m_s_n (by omega), m_sk b]), h4.ex (fun j => by rw [m_sk (by decide), m_sk (by decide), m_sk (by decide)]), (k0 17 (by decide) (by decide)).trans h5, (k0 18 (by decide) (by decide)).trans h6, (k0 21 (by decide) (by decide)).trans h7⟩
theorem p_wv {N : Nat} (hN : 1000 ≤ N) {t v : List Int} {W : Int → Int} {Y : Int → List Int} {p : Int} {S : s_M} {T : Int → List Int} {V WN : Int → Int} (ht : TX S T) (hs : srx S t) (hst : sts S T W Y (V 5)) (hw : WX S WN) (h17 : S 0 17 = V 6) (h0 : 0 ≤ V 6 ∧ V 6 ≤ (t.length : Int)) (h18 : S 0 18 = 0) (h21 : 0 ≤ S 0 21 ∧ S 0 21 < 1000) : ∃ S' T', (∀ k : Int → s_M → rO, (bnd (A_word N S) fun v1 S2 => bnd (A_expect N 61 S2) fun v8 S9 => bnd (A_readValue N S9) fun v15 S16 => k v1 S16) = k (wv1 t W Y p v V WN).2.1 S') ∧ wvK S S' T T' t (V 6) (wv1 t W Y p v V WN) := by
  obtain ⟨a1, a2⟩ := p_wordR (N := N) hN hs h17 h0 h18 (by omega)
  have w6 : wdV t V 6 = (tkw t (V 6)).2 := by simp [wdV, rset]
  have w5 : wdV t V 5 = V 5 := by simp [wdV, rset]
  have ht1 : ∀ x : Int, TX (m_s S 0 17 x) T := fun x => ht.ex (fun q j z => m_sk (by omega))
  by_cases c : (tkw t (V 6)).1 = 0
  · have e : wv1 t W Y p v V WN = (false, (tkw t (V 6)).1, (v, wdV t V, WN)) := if_pos c
    have hr := rdR.no (ht1 (tkw t (V 6)).2) (fun _ _ => rfl) exW.at.exRd (hw.exw exW.at) m_s_s (m_sj (by decide))
    rw [e]
    refine ⟨m_s (m_s (m_s (oth (m_s S 0 17 (tkw t (V 6)).2)) 3 82 0) 0 20 0) 0 19 0, lset T 82 [], fun k => ?_, ?_, by show V 6 ≤ wdV t V 6 ∧ wdV t V 6 ≤ (t.length : Int); rw [w6]; exact a2, fun z => Bool.noConfusion z⟩
    · rw [bnd_e a1, if_pos c, bnd_e (p_expx (by rw [oth_18]; decide)), bnd_e (p_rvx hN (by rw [oth_18]; decide))]
    · show rdR S _ T _ WN false (wdV t V 6)
      rw [w6]
      exact hr.clr
  · rw [if_neg c] at a1
    have hx := p_expect (N := N) hN (c := 61) (hs.at (x := (tkw t (V 6)).2)) (by decide) m_s_s (by omega) ((m_sj (by decide)).trans h18) (by rw [m_sj (by decide)]; omega)
    by_cases d : (tsk t 61 (tkw t (V 6)).2).1 = true
    · rw [if_pos d, m_s_twice] at hx
      have e : wv1 t W Y p v V WN = ((tvf t W Y p (sgV t 61 (wdV t V)) WN).1, (tkw t (V 6)).1, ((tvf t W Y p (sgV t 61 (wdV t V)) WN).2.1, (tvf t W Y p (sgV t 61 (wdV t V)) WN).2.2.1, tvW (tvf t W Y p (sgV t 61 (wdV t V)) WN))) := (if_neg c).trans (if_pos (by rw [w6]; exact d))
      have s6 : sgV t 61 (wdV t V) 6 = (tsk t 61 (tkw t (V 6)).2).2 := by
        have : sgV t 61 (wdV t V) 6 = (tsk t 61 (wdV t V 6)).2 := by simp [sgV, rset]
        rw [this, w6]
      have s5 : sgV t 61 (wdV t V) 5 = V 5 := by
        rw [← w5]
        simp [sgV, rset]
      have hq := pb_in (t := t) a2.2
      have hts : (tsk t 61 (tkw t (V 6)).2).2 = pb t (tkw t (V 6)).2 + 1 ∧ pb t (tkw t (V 6)).2 < (t.length : Int) := by
        unfold tsk at d ⊢
        by_cases w : tg t (pb t (tkw t (V 6)).2) = 61
        · rw [if_pos w]
          refine ⟨rfl, ?_⟩
          by_cases y : pb t (tkw t (V 6)).2 < (t.length : Int)
          · exact y
          · rw [(hr_out y).2] at w
            exact absurd w (by decide)
        · rw [if_neg w] at d
          exact Bool.noConfusion d
      obtain ⟨S2, T2, b1, b2, b4, b3⟩ := p_readValue (N := N) hN (t := t) (W := W) (Y := Y) (p := p) (S := m_s S 0 17 (tsk t 61 (tkw t (V 6)).2).2) (V := sgV t 61 (wdV t V)) (ht1 _) hs.at (by rw [s5]; exact hst.ex exW.at.exRd (fun _ _ => rfl)) (hw.exw exW.at) (by rw [m_s_s, s6]) (by rw [s6]; omega) ((m_sj (by decide)).trans h18) (by rw [m_sj (by decide)]; exact h21)
      rw [e]
      refine ⟨S2, T2, fun k => ?_, b2.after exW.at.exRd (m_sj (by decide)) (fun _ _ => rfl), ?_, fun z => ?_⟩
      · rw [bnd_e a1, bnd_e hx, bnd_e b1]
      · show V 6 ≤ (tvf t W Y p (sgV t 61 (wdV t V)) WN).2.2.1 6 ∧ (tvf t W Y p (sgV t 61 (wdV t V)) WN).2.2.1 6 ≤ (t.length : Int)
        rw [s6] at b4
        omega
      · obtain ⟨z1, z2, z3⟩ := b3 z
        exact ⟨z1, z2, z3, tkw_wdk c⟩
    · rw [if_neg d, m_s_twice] at hx
      have e : wv1 t W Y p v V WN = (false, (tkw t (V 6)).1, (v, sgV t 61 (wdV t V), WN)) := (if_neg c).trans (if_neg (by rw [w6]; exact d))
      have s6 : sgV t 61 (wdV t V) 6 = (tsk t 61 (tkw t (V 6)).2).2 := by
        have : sgV t 61 (wdV t V) 6 = (tsk t 61 (wdV t V 6)).2 := by simp [sgV, rset]
        rw [this, w6]
      have hr := rdR.no (ht1 (tsk t 61 (tkw t (V 6)).2).2) (fun _ _ => rfl) exW.at.exRd (hw.exw exW.at) m_s_s (m_sj (by decide))
      rw [e]
      have hts := tsk_rng (t := t) (c := 61) (i := (tkw t (V 6)).2) (by omega) (by decide)
      refine ⟨m_s (m_s (m_s (oth (m_s S 0 17 (tsk t 61 (tkw t (V 6)).2).2)) 3 82 0) 0 20 0) 0 19 0, lset T 82 [], fun k => ?_, ?_, by show V 6 ≤ sgV t 61 (wdV t V) 6 ∧ sgV t 61 (wdV t V) 6 ≤ (t.length : Int); rw [s6]; omega, fun z => Bool.noConfusion z⟩
      · rw [bnd_e a1, bnd_e hx, bnd_e (p_rvx hN (by rw [oth_18]; decide))]
      · show rdR S _ T _ WN false (sgV t 61 (wdV t V) 6)
        rw [s6]
        exact hr.clr
