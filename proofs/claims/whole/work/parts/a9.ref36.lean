theorem p_item {N : Nat} (hN : 1000 ≤ N) {t v : List Int} {W : Int → Int} {Y : Int → List Int} {p n : Int} {E : Int → sen} {S : s_M} {T : Int → List Int} {V WN : Int → Int} (ht : TX S T) (hs : srx S t) (hst : sts S T W Y (V 5)) (hw : WX S WN) (h17 : S 0 17 = V 6) (h0 : 1 ≤ V 6 ∧ V 6 ≤ (t.length : Int)) (h18 : S 0 18 = 0) (h21 : 0 ≤ S 0 21 ∧ S 0 21 < 900) (hE : EX S T E n) : ∃ S' T', (∀ k : s_M → rO, (bnd (A_word N S) fun v33 S34 => bnd (A_expect N 123 S34) fun v40 S41 => if (S41 0 18) = 0 then (if v33 = 113723913172083 then (bnd (A_string N S41) fun v53 S54 => A_read_j142 N k S54) else (A_read_j122 N k v33 S41)) else (A_read_j122 N k v33 S41)) = k S') ∧ itK S S' T T' t (V 6) (tif t W Y p v V WN E n) := by
  obtain ⟨a1, a2⟩ := p_wordR (N := N) hN hs h17 (by omega) h18 (by omega)
  have w6 : wdV t V 6 = (tkw t (V 6)).2 := by simp [wdV, rset]
  have w5 : wdV t V 5 = V 5 := by simp [wdV, rset]
  have ht1 : ∀ x : Int, TX (m_s S 0 17 x) T := fun x => ht.ex (fun q j z => m_sk (by omega))
  by_cases c : (tkw t (V 6)).1 = 0
  · rw [if_pos c] at a1
    have e : tif t W Y p v V WN E n = (false, (wdV t V, W, Y, v, WN), E, n) := if_pos c
    rw [e]
    refine ⟨oth (m_s S 0 17 (tkw t (V 6)).2), T, fun k => ?_, itK.rd (V := wdV t V) ?_ (by rw [w5]; exact hst) hE (by rw [w6]; exact a2)⟩
    · rw [bnd_e a1, bnd_e (p_expx (by rw [oth_18]; decide)), if_neg (by rw [oth_18]; decide), A_read_j122_e, if_neg (by rw [oth_18]; decide), A_read_j142_e]
    · rw [w6]
      exact rdR.no (ht1 (tkw t (V 6)).2) (fun _ _ => rfl) exW.at.exRd (hw.exw exW.at) m_s_s (m_sj (by decide))
  · rw [if_neg c] at a1
    have hx := p_expect (N := N) hN (c := 123) (hs.at (x := (tkw t (V 6)).2)) (by decide) m_s_s (by omega) ((m_sj (by decide)).trans h18) (by rw [m_sj (by decide)]; omega)
    rw [m_s_twice] at hx
    have htr := tsk_rng (t := t) (c := 123) (i := (tkw t (V 6)).2) (by omega) (by decide)
    have s6 : sgV t 123 (wdV t V) 6 = (tsk t 123 (tkw t (V 6)).2).2 := by rw [sg6, w6]
    have s5 : sgV t 123 (wdV t V) 5 = V 5 := by rw [sg5, w5]
    have b17 : m_s S 0 17 (tsk t 123 (tkw t (V 6)).2).2 0 17 = sgV t 123 (wdV t V) 6 := by rw [m_s_s, s6]
    have b18 : m_s S 0 17 (tsk t 123 (tkw t (V 6)).2).2 0 18 = 0 := (m_sj (by decide)).trans h18
    have b21 : m_s S 0 17 (tsk t 123 (tkw t (V 6)).2).2 0 21 = S 0 21 := m_sj (by decide)
    have bt := ht1 (tsk t 123 (tkw t (V 6)).2).2
    have bs : srx (m_s S 0 17 (tsk t 123 (tkw t (V 6)).2).2) t := hs.at
    have bx : exRd S (m_s S 0 17 (tsk t 123 (tkw t (V 6)).2).2) := exW.at.exRd
    have bst : sts (m_s S 0 17 (tsk t 123 (tkw t (V 6)).2).2) T W Y (sgV t 123 (wdV t V) 5) := by
      rw [s5]
      exact hst.ex bx (fun _ _ => rfl)
    have bw := hw.exw (exW.at (x := (tsk t 123 (tkw t (V 6)).2).2))
    have bE : EX (m_s S 0 17 (tsk t 123 (tkw t (V 6)).2).2) T E n := hE.exr bx (fun _ _ => rfl)
    by_cases d : (tsk t 123 (tkw t (V 6)).2).1 = true
    · rw [if_pos d] at hx
      have e0 : tif t W Y p v V WN E n = if (tkw t (V 6)).1 = 32772479205076835 then (true, (sgV t 123 (wdV t V), W, Y, v, WN), E, n) else if (tkw t (V 6)).1 = 113723913172083 then ((tsf t W Y p v (sgV t 123 (wdV t V)) WN).1, (tsf t W Y p v (sgV t 123 (wdV t V)) WN).2, E, n) else ((ten t W Y p v (sgV t 123 (wdV t V)) WN (tkw t (V 6)).1 E n).1, ((ten t W Y p v (sgV t 123 (wdV t V)) WN (tkw t (V 6)).1 E n).2.1.2.1, W, Y, (ten t W Y p v (sgV t 123 (wdV t V)) WN (tkw t (V 6)).1 E n).2.1.1, (ten t W Y p v (sgV t 123 (wdV t V)) WN (tkw t (V 6)).1 E n).2.1.2.2), (ten t W Y p v (sgV t 123 (wdV t V)) WN (tkw t (V 6)).1 E n).2.2.1, (ten t W Y p v (sgV t 123 (wdV t V)) WN (tkw t (V 6)).1 E n).2.2.2) := (if_neg c).trans (if_pos (by rw [w6]; exact d))
      have mv : ∀ (S' : s_M) (T' : Int → List Int) (r : tiT), itK (m_s S 0 17 (tsk t 123 (tkw t (V 6)).2).2) S' T T' t (sgV t 123 (wdV t V) 6) r → itK S S' T T' t (V 6) r := fun S' T' r h => by
        obtain ⟨q1, q2, q3, q4, q5, q6, q7, q8, q9⟩ := h
        rw [b21] at q6
        exact ⟨q1, q2, q3, q4, q5, q6, bx.exA.trans q7, q8, by omega⟩
      rw [e0]
      by_cases g : (tkw t (V 6)).1 = 32772479205076835
      · rw [if_pos g]
        refine ⟨m_s S 0 17 (tsk t 123 (tkw t (V 6)).2).2, T, fun k => ?_, itK.rd (V := sgV t 123 (wdV t V)) (rdR.ok bt (fun _ _ => rfl) bx bw b17 b18 b21) (by rw [s5]; exact hst) hE (by omega)⟩
        rw [bnd_e a1, bnd_e hx, if_pos b18, if_neg (by omega), A_read_j122_e, if_pos b18, if_pos g, A_read_j142_e]
      · rw [if_neg g]
        by_cases h : (tkw t (V 6)).1 = 113723913172083
        · rw [if_pos h]
          obtain ⟨S2, T2, r1, r2⟩ := p_string (N := N) (t := t) (v := v) (p := p) (V := sgV t 123 (wdV t V)) hN bt bs bst bw b17 (by omega) b18 (by rw [b21]; omega) bE
          refine ⟨S2, T2, fun k => ?_, mv S2 T2 _ r2⟩
          rw [bnd_e a1, bnd_e hx, if_pos b18, if_pos h, bnd_e r1, A_read_j142_e]
        · rw [if_neg h]
          obtain ⟨S2, T2, r1, r2⟩ := p_entry (N := N) (t := t) (v := v) (p := p) (V := sgV t 123 (wdV t V)) (ty := (tkw t (V 6)).1) hN bt bs bst bw b17 (by omega) b18 (by rw [b21]; omega) bE (tkw_rng t (V 6))
          refine ⟨S2, T2, fun k => ?_, mv S2 T2 _ r2⟩
          rw [bnd_e a1, bnd_e hx, if_pos b18, if_neg h, A_read_j122_e, if_pos b18, if_neg g, bnd_e r1, A_read_j142_e]
    · rw [if_neg d] at hx
      have e : tif t W Y p v V WN E n = (false, (sgV t 123 (wdV t V), W, Y, v, WN), E, n) := (if_neg c).trans (if_neg (by rw [w6]; exact d))
      rw [e]
      refine ⟨oth (m_s S 0 17 (tsk t 123 (tkw t (V 6)).2).2), T, fun k => ?_, itK.rd (V := sgV t 123 (wdV t V)) ?_ (by rw [s5]; exact hst) hE (by omega)⟩
      · rw [bnd_e a1, bnd_e hx, if_neg (by rw [oth_18]; decide), A_read_j122_e, if_neg (by rw [oth_18]; decide), A_read_j142_e]
      · rw [s6]
        exact rdR.no bt (fun _ _ => rfl) bx bw m_s_s b21
/-- the reading as a whole: what it comes to, beside the program's q -/
def rdK (S S' : s_M) (T T' : Int → List Int) (q : rsS) : Prop := TX S' T' ∧ WX S' q.1.2.2.2.2 ∧ EX S' T' q.2.1 q.2.2 ∧ exA S S' ∧ fT T T'
theorem rdl_no {t : List Int} {p : Int} {q : rsS} (h : rdb t q = false) : ∀ k : Nat, rdl t p k q = q
  | 0 => rfl
  | k + 1 => if_neg (by rw [h]; decide)
theorem p_rdl {N : Nat} (hN : 1000 ≤ N) {t : List Int} {p : Int} : ∀ (n k : Nat) (i : Int) (S : s_M) (T : Int → List Int) (q : rsS), TX S T → srx S t → sts S T q.1.2.1 q.1.2.2.1 (q.1.1 5) → WX S q.1.2.2.2.2 → EX S T q.2.1 q.2.2 → S 0 17 = i → S 0 21 = q.1.1 7 → (0 ≤ i ∧ i ≤ (t.length : Int)) → (0 ≤ q.1.1 7 ∧ q.1.1 7 ≤ 8) → fit t (q.1.1 6) = fit t i → (t.length : Int) < i + n → (t.length : Int) ≤ i + k → ∃ S' T', A_read_l30 N n S = some ((rdl t p k q).2.2, S') ∧ rdK S S' T T' (rdl t p k q)
  | 0, k, i, S, T, q, ht, hs, hst, hw, hE, h17, h21, h0, h7, hf, hn, hk => by omega
  | n + 1, k, i, S, T, q, ht, hs, hst, hw, hE, h17, h21, h0, h7, hf, hn, hk => by
    have h320 := hs.2.1
    have fin : rdb t q = false → A_read_l30 N (n + 1) S = A_read_j145 N S → ∃ S' T', A_read_l30 N (n + 1) S = some ((rdl t p k q).2.2, S') ∧ rdK S S' T T' (rdl t p k q) := fun e1 e2 => by
      rw [rdl_no e1, e2, A_read_j145_e, hE.1]
      exact ⟨S, T, rfl, ht, hw, hE, exA.refl S, fT.refl T⟩
    by_cases c1 : i < (t.length : Int)
    · by_cases c2 : q.1.1 7 < 8
      · have hch := (hs.2.2 i h0.1 c1).1
        have st : A_read_l30 N (n + 1) S = if (if (tg t i) = 64 then (1 : Int) else 0) = 0 then (A_read_j142 N (A_read_l30 N n) (m_s S 0 17 (i + 1))) else (bnd (A_word N (m_s (m_s S 0 17 (i + 1)) 0 18 0)) fun v33 S34 => bnd (A_expect N 123 S34) fun v40 S41 => if (S41 0 18) = 0 then (if v33 = 113723913172083 then (bnd (A_string N S41) fun v53 S54 => A_read_j142 N (A_read_l30 N n) S54) else (A_read_j122 N (A_read_l30 N n) v33 S41)) else (A_read_j122 N (A_read_l30 N n) v33 S41)) := by
          rw [A_read_l30_e, h17, if_pos (by rw [hs.1]; exact c1), if_pos (by omega), chk_e (by omega), chk_e (by omega), hch]
        rw [st]
        by_cases c3 : tg t i = 64
        · have ef : fit t i = (true, i + 1) := by rw [fit_s c1, if_pos c3]
          have eb : rdb t q = true := by
            unfold rdb
            rw [if_neg (by omega), hf, ef]
          obtain ⟨k', ek⟩ : ∃ k', k = k' + 1 := ⟨k - 1, by omega⟩
          have er : rdl t p k q = rdl t p k' (rd1 t p q) := by
            rw [ek]
            exact if_pos eb
          have ei : rdi t p q = tif t q.1.2.1 q.1.2.2.1 p q.1.2.2.2.1 (rset q.1.1 6 (i + 1)) q.1.2.2.2.2 q.2.1 q.2.2 := by
            unfold rdi
            rw [hf, ef]
          have xR : exRd S (m_s (m_s S 0 17 (i + 1)) 0 18 0) := fun z j _ _ _ d => (m_s_n (by omega)).trans (m_s_n (by omega))
          have g5 : rset q.1.1 6 (i + 1) 5 = q.1.1 5 := rset_ne (by decide)
          have g6 : rset q.1.1 6 (i + 1) 6 = i + 1 := rset_at
          have g7 : rset q.1.1 6 (i + 1) 7 = q.1.1 7 := rset_ne (by decide)
          have s21 : m_s (m_s S 0 17 (i + 1)) 0 18 0 0 21 = q.1.1 7 := (m_sj (by decide)).trans ((m_sj (by decide)).trans h21)
          obtain ⟨S2, T2, r1, r2⟩ := p_item (N := N) (t := t) (v := q.1.2.2.2.1) (p := p) (V := rset q.1.1 6 (i + 1)) hN (ht.ex (fun z j y => by rw [m_sk (by omega), m_sk (by omega)])) (hs.exr xR) (by rw [g5]; exact hst.ex xR (fun _ _ => rfl)) (hw.ex (fun j => by rw [m_sk (by decide), m_sk (by decide)])) (by rw [g6, m_sj (by decide), m_s_s]) (by rw [g6]; omega) m_s_s (by rw [s21]; omega) (hE.exr xR (fun _ _ => rfl))
          have hok := tif_ok (t := t) (W := q.1.2.1) (Y := q.1.2.2.1) (p := p) (v := q.1.2.2.2.1) (V := rset q.1.1 6 (i + 1)) (WN := q.1.2.2.2.2) (E := q.2.1) (n := q.2.2) ⟨by rw [g6]; omega, by rw [g5]; exact hst.2.1⟩ h320 hst.2.2.2.2
          rw [← ei] at r2 hok
          rw [g7] at hok
          rw [g6] at r2
          obtain ⟨u1, u2, u3, u4, u5, u6, u7, u8, u9⟩ := r2
          rw [s21] at u6
          have hc3 : ¬ (if (tg t i) = 64 then (1 : Int) else 0) = 0 := by rw [if_pos c3]; decide
          rw [if_neg hc3, r1 (A_read_l30 N n), er]
          have xA : exA S S2 := xR.exA.trans u7
          have hs2 : srx S2 t := hs.exa xA
          unfold rd1
          by_cases d : (rdi t p q).1 = true
          · rw [if_pos d] at u3 u6 ⊢
            obtain ⟨S3, T3, v1, v2, v3, v4, v5, v6⟩ := p_rdl (N := N) hN (t := t) (p := p) n k' ((rdi t p q).2.1.1 6) S2 T2 (rdi t p q).2 u1 hs2 u2 u3 u4 u5 (by rw [u6, hok.2, Int.add_zero]) hok.1.1 (by rw [hok.2]; exact h7) rfl (by omega) (by omega)
            exact ⟨S3, T3, v1, v2, v3, v4, xA.trans v5, u8.trans v6⟩
          · rw [if_neg d] at u3 u6 ⊢
            have j7 : rset (rdi t p q).2.1.1 7 ((rdi t p q).2.1.1 7 + 1) 7 = q.1.1 7 + 1 := by rw [rset_at, hok.2]
            have j6 : rset (rdi t p q).2.1.1 7 ((rdi t p q).2.1.1 7 + 1) 6 = (rdi t p q).2.1.1 6 := rset_ne (by decide)
            have j5 : rset (rdi t p q).2.1.1 7 ((rdi t p q).2.1.1 7 + 1) 5 = (rdi t p q).2.1.1 5 := rset_ne (by decide)
            obtain ⟨S3, T3, v1, v2, v3, v4, v5, v6⟩ := p_rdl (N := N) hN (t := t) (p := p) n k' ((rdi t p q).2.1.1 6) S2 T2 (rdn (rdi t p q).2) u1 hs2 (by show sts S2 T2 _ _ (rset (rdi t p q).2.1.1 7 ((rdi t p q).2.1.1 7 + 1) 5); rw [j5]; exact u2) u3 u4 u5 (by show S2 0 21 = rset (rdi t p q).2.1.1 7 ((rdi t p q).2.1.1 7 + 1) 7; rw [j7, u6]) hok.1.1 (by show 0 ≤ rset (rdi t p q).2.1.1 7 ((rdi t p q).2.1.1 7 + 1) 7 ∧ rset (rdi t p q).2.1.1 7 ((rdi t p q).2.1.1 7 + 1) 7 ≤ 8; rw [j7]; omega) (by show fit t (rset (rdi t p q).2.1.1 7 ((rdi t p q).2.1.1 7 + 1) 6) = _; rw [j6]) (by omega) (by omega)
            exact ⟨S3, T3, v1, v2, v3, v4, xA.trans v5, u8.trans v6⟩
        · have ef : fit t i = fit t (i + 1) := by rw [fit_s c1, if_neg c3]
          have hc3 : (if (tg t i) = 64 then (1 : Int) else 0) = 0 := if_neg c3
          have xR : exRd S (m_s S 0 17 (i + 1)) := exW.at.exRd
          rw [if_pos hc3, A_read_j142_e]
          obtain ⟨S3, T3, v1, v2, v3, v4, v5, v6⟩ := p_rdl (N := N) hN (t := t) (p := p) n k (i + 1) (m_s S 0 17 (i + 1)) T q (ht.ex (fun z j y => m_sk (by omega))) hs.at (hst.ex xR (fun _ _ => rfl)) (hw.exw exW.at) (hE.exr xR (fun _ _ => rfl)) m_s_s ((m_sj (by decide)).trans h21) (by omega) h7 (hf.trans ef) (by omega) (by omega)
          exact ⟨S3, T3, v1, v2, v3, v4, xR.exA.trans v5, v6⟩
      · refine fin ?_ ?_
        · unfold rdb
          rw [if_pos (by omega)]
        · rw [A_read_l30_e, h17, if_pos (by rw [hs.1]; exact c1), if_neg (by omega)]
    · refine fin ?_ ?_
      · unfold rdb
        by_cases z : 8 ≤ q.1.1 7
        · rw [if_pos z]
        · rw [if_neg z, hf, fit_e (by omega)]
      · rw [A_read_l30_e, h17, if_neg (by rw [hs.1]; exact c1)]
theorem o_read {N : Nat} (hN : 1000 ≤ N) {S : s_M} {T : Int → List Int} {s : rnT} {ns : Int} {O Q Z : Int → Int} {t : List Int} {nc m : Int} {WC L : Int → Int} (h : cpl S T s ns O Q Z t nc m WC L) {WR V0 : Int → Int} {YR : Int → List Int} {vR : List Int} {p : Int} (hY : ∀ k : Int, 0 ≤ k → k < 8 → (YR k).length ≤ 60) {q : rsS} (hq : q = rdl t p ((320 : Int) - 0).toNat (((rset (rset (rset V0 5 0) 6 0) 7 0), WR, YR, vR, s.1.1), s.2.1.2, (0 : Int))) : oks (A_read N S) 0 q.2.2 (fun S' T' => cpl S' T' ((q.1.2.2.2.2, s.1.2), (s.2.1.1, q.2.1), s.2.2) q.2.2 O Q Z t nc 0 WC L) := by
  obtain ⟨a1, a2, a3, a4, a5⟩ := h
  obtain ⟨⟨q1, q2, q3, q4, q5⟩, e1, e2, e3, e4⟩ := a1
  obtain ⟨S0, hS0⟩ : ∃ S0, S0 = m_s (m_s (m_s (m_s (m_s (m_s S 0 0 0) 0 6 0) 0 11 0) 0 15 0) 0 17 0) 0 21 0 := ⟨_, rfl⟩
  have e : ∀ z j : Int, ¬ (z = 0 ∧ (j = 0 ∨ j = 6 ∨ j = 11 ∨ j = 15 ∨ j = 17 ∨ j = 21)) → S0 z j = S z j := fun z j y => by
    rw [hS0, m_s_n (by omega), m_s_n (by omega), m_s_n (by omega), m_s_n (by omega), m_s_n (by omega), m_s_n (by omega)]
  have f0 : S0 0 0 = 0 := by rw [hS0, m_sj (by decide), m_sj (by decide), m_sj (by decide), m_sj (by decide), m_sj (by decide), m_s_s]
  have f6 : S0 0 6 = 0 := by rw [hS0, m_sj (by decide), m_sj (by decide), m_sj (by decide), m_sj (by decide), m_s_s]
  have f11 : S0 0 11 = 0 := by rw [hS0, m_sj (by decide), m_sj (by decide), m_sj (by decide), m_s_s]
  have f15 : S0 0 15 = 0 := by rw [hS0, m_sj (by decide), m_sj (by decide), m_s_s]
  have f17 : S0 0 17 = 0 := by rw [hS0, m_sj (by decide), m_s_s]
  have f21 : S0 0 21 = 0 := by rw [hS0, m_s_s]
  have v5 : rset (rset (rset V0 5 0) 6 0) 7 0 5 = 0 := by simp [rset]
  have v6 : rset (rset (rset V0 5 0) 6 0) 7 0 6 = 0 := by simp [rset]
  have v7 : rset (rset (rset V0 5 0) 6 0) 7 0 7 = 0 := by simp [rset]
  have h320 := a3.2.1
  obtain ⟨S', T', r1, r2, r3, r4, r5, r6⟩ := p_rdl (N := N) hN (t := t) (p := p) N 320 0 S0 T (((rset (rset (rset V0 5 0) 6 0) 7 0), WR, YR, vR, s.1.1), s.2.1.2, (0 : Int)) (q1.ex (fun z j y => e z j (by omega))) (a3.ex (fun z j y => e z j (by omega))) (by
    show sts S0 T WR YR (rset (rset (rset V0 5 0) 6 0) 7 0 5)
    rw [v5]
    exact ⟨f11, by decide, fun k k0 k1 => absurd k1 (by omega), fun i j i0 i1 => absurd i1 (by omega), hY⟩) (q2.ex (fun j => e 1 j (by omega))) ⟨f6, (by decide : (0 : Int) ≤ 0 ∧ (0 : Int) ≤ 8), fun k k0 k1 => absurd k1 (by show ¬ k < 0; omega), fun i j i0 i1 => absurd i1 (by show ¬ i < 0; omega)⟩ f17 (by rw [f21]; exact v7.symm) (by omega) (by show 0 ≤ rset (rset (rset V0 5 0) 6 0) 7 0 7 ∧ rset (rset (rset V0 5 0) 6 0) 7 0 7 ≤ 8; rw [v7]; decide) (by show fit t (rset (rset (rset V0 5 0) 6 0) 7 0 6) = fit t 0; rw [v6]) (by omega) (by omega)
  have hq' : rdl t p 320 (((rset (rset (rset V0 5 0) 6 0) 7 0), WR, YR, vR, s.1.1), s.2.1.2, (0 : Int)) = q := hq.symm
  rw [hq'] at r1 r3 r4
  have k : ∀ z j : Int, ¬ (z = 1 ∨ (3 ≤ z ∧ z ≤ 9)) → ¬ (z = 0 ∧ (j = 0 ∨ j = 6 ∨ j = 11 ∨ j = 15 ∨ (17 ≤ j ∧ j ≤ 21))) → S' z j = S z j := fun z j y1 y2 => (r5 z j y1 (by omega)).trans (e z j (by omega))
  refine ⟨q.2.2, S', T', ?_, (r5 0 0 (by omega) (by omega)).trans f0, fun _ => rfl, ⟨⟨r2, r3, (k 0 26 (by omega) (by omega)).trans q3, q4, fun i i0 i1 => ?_⟩, r4, fun g g0 g1 => ?_, e3.ex (fun z j y => k z j (by omega) (by omega)), fun i i0 i1 => absurd i1 (by omega)⟩, a2.keep (K' := S) (fun z j y => k z j (by omega) (by omega)), a3.ex (fun z j y => k z j (by omega) (by omega)), a4.ex (fun z j y => k z j (by omega) (by omega)), ⟨(r5 0 15 (by omega) (by omega)).trans f15, by decide, fun i i0 i1 => absurd i1 (by omega), fun i j i0 i1 => absurd i1 (by omega)⟩⟩
  · rw [A_read_e, ← hS0]
    exact r1
  · have q4' : 0 ≤ s.1.2.1 ∧ s.1.2.1 ≤ 12 := q4
    have i1' : i < s.1.2.1 := i1
    exact (q5 i i0 i1).ex (k 16 i (by omega) (by omega)) (k 17 i (by omega) (by omega)) (r6 _ (by omega) (by omega))
  · rw [k 15 g (by omega) (by omega)]
    exact e2 g g0 g1
