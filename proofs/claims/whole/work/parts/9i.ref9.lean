theorem l_mod_eq {n c : Int} (hn : 0 ≤ n ∧ n < 9223372036854775808) (hc : 0 < c ∧ c < 9223372036854775808) : l_mod n c = n % c := by
  have h0 := Int.emod_nonneg n (show c ≠ 0 by omega)
  have h1 := Int.emod_lt_of_pos n hc.1
  unfold l_mod
  rw [l_remc hn hc]
  exact Int64.toInt_ofInt_of_le (by omega) (by omega)
theorem l_quo_eq {n c : Int} (hn : 0 ≤ n ∧ n < 9223372036854775808) (hc : 0 < c ∧ c < 9223372036854775808) : l_quo n c = n / c := by
  have h0 := Int.ediv_nonneg hn.1 (Int.le_of_lt hc.1)
  have h1 := Int.ediv_le_self c hn.1
  unfold l_quo
  rw [l_divc hn hc]
  exact Int64.toInt_ofInt_of_le (by omega) (by omega)
theorem md_eq {n c : Int} (hn : rL n) (hc : 0 < c ∧ c < 2147483648) : wi32 (if n < 0 then (0 : Int) else (l_mod n c)) = max n 0 % c := by
  have h0 := Int.emod_nonneg (max n 0) (show c ≠ 0 by omega)
  have h1 := Int.emod_lt_of_pos (max n 0) hc.1
  have e : (if n < 0 then (0 : Int) else (l_mod n c)) = max n 0 % c := by
    by_cases q : n < 0
    · rw [if_pos q, show max n 0 = 0 by omega]
      exact (Int.zero_emod c).symm
    · rw [if_neg q, show max n 0 = n by omega]
      exact l_mod_eq ⟨by omega, hn.2⟩ ⟨hc.1, by omega⟩
  rw [e]
  exact wi32_id ⟨by omega, by omega⟩
theorem p_entrys {N : Nat} (hN : 100 ≤ N) {S : s_M} {T : Int → List Int} {k : skT} {E : Int → sen} {hd ns : Int} (h : QX S T k) (hE : EX S T E ns) (hh : S 0 31 = hd ∧ -1 ≤ hd ∧ hd < ns) (b : Bool) : ∃ S' T', A_entrys N (if b = true then 18 else 19) S = some (0, S') ∧ QX S' T' (sG (hdv hd (uof (u64 (if b = true then (E hd).1.1 else (E hd).1.2.1)))) k) ∧ exK S S' ∧ ∀ q, q < 70 → T' q = T q := by
  have hl := hE.len
  by_cases c0 : hd < 0
  · obtain ⟨S1, a1, a2, a3⟩ := p_giveMissing (N := N) h
    refine ⟨S1, T, ?_, ?_, a3, fun q _ => rfl⟩
    · rw [A_entrys_e, if_pos (by omega), bnd_e a1]
    · rw [show ∀ t, hdv hd t = (2, 0, []) from fun t => if_neg (by omega)]
      exact a2
  · have hen := hE.2.2.1 hd (by omega) hh.2.2
    have main : ∀ y : Int, ∃ S' T', A_entrys_j40 N y S = some (0, S') ∧ QX S' T' (sG (hdv hd (uof (u64 y))) k) ∧ exK S S' ∧ ∀ q, q < 70 → T' q = T q := fun y => by
      obtain ⟨S1, a1, a2, a3⟩ := p_unpack (N := N) hN h.1 (x := y) (t := 84) (by decide)
      have q1 : QX S1 (lset T 84 (uof (u64 y))) k := h.txt a2 a3 (fun j j0 j1 => lset_ne (by omega))
      obtain ⟨S2, T2, b1, b2, b3, b4⟩ := p_giveText (N := N) hN q1 (t := 84) (by decide) (by rw [lset_at]; exact (uof_prt _).1)
      rw [lset_at] at b2
      refine ⟨S2, T2, by rw [A_entrys_j40_e, bnd_e a1, bnd_e b1], ?_, a3.exK.trans b3, fun q hq => (b4 q (Or.inl hq)).trans (lset_ne (by omega))⟩
      rw [show ∀ t, hdv hd t = (1, 0, t) from fun t => if_pos (by omega)]
      exact b2
    cases b with
    | true =>
      obtain ⟨S1, T1, a1, a2⟩ := main (E hd).1.1
      refine ⟨S1, T1, ?_, a2⟩
      rw [if_pos rfl, A_entrys_e, if_neg (by omega), if_pos (by decide), chk_e (by omega), hh.1, hen.1]
      exact a1
    | false =>
      obtain ⟨S1, T1, a1, a2⟩ := main (E hd).1.2.1
      refine ⟨S1, T1, ?_, a2⟩
      rw [if_neg (by decide), A_entrys_e, if_neg (by omega), if_neg (by decide), chk_e (by omega), hh.1, hen.2.1]
      exact a1
theorem gbl.set {S : s_M} {G : Int → Int} (h : gbl S G) {g x : Int} (hx : rI x) : gbl (m_s S 15 g x) (rset G g x) := fun i i0 i1 => by
  by_cases e : i = g
  · rw [e, m_s_s]
    exact ⟨(if_pos rfl).symm, by rw [show rset G g x g = x from if_pos rfl]; exact hx⟩
  · rw [m_sj e, show rset G g x i = G i from if_neg e]
    exact h i i0 i1
theorem RX.glo {S : s_M} {T : Int → List Int} {hd ns m : Int} {L : Int → Int} {s : rnT} (h : RX S T hd ns m L s) {g x : Int} (hx : rI x) : RX (m_s S 15 g x) T hd ns m L (s.1, (rset s.2.1.1 g x, s.2.1.2), s.2.2) := by
  obtain ⟨a1, a2, a3, a4, a5, a6⟩ := h
  obtain ⟨b1, b2, b3, b4, b5⟩ := a1
  have e : ∀ q j : Int, q ≠ 15 → m_s S 15 g x q j = S q j := fun q j z => m_sk z
  exact ⟨⟨b1.ex (fun q j z => e q j (by omega)), b2.ex (fun j => e 1 j (by omega)), (e 0 26 (by omega)).trans b3, b4, fun i i0 i1 => (b5 i i0 i1).ex (e 16 i (by omega)) (e 17 i (by omega)) rfl⟩, a2.exg (fun q j z => e q j (by omega)) (fun q _ => rfl), a3.set hx, a4.ex (fun q j z => e q j (by omega)), ⟨(e 0 31 (by omega)).trans a5.1, a5.2⟩, a6⟩
/-- a sort key is set -/
theorem RX.skk {S S' : s_M} {T : Int → List Int} {hd ns m : Int} {L : Int → Int} {s : rnT} (h : RX S T hd ns m L s) (h0 : 0 ≤ hd) {u : List Int} (ht : TX S' (lset T (62 + hd) u)) (he : exT S S') : RX S' (lset T (62 + hd) u) hd ns m L (s.1, (s.2.1.1, eset s.2.1.2 hd (sky (s.2.1.2 hd) u)), s.2.2) := by
  obtain ⟨a1, a2, a3, a4, a5, a6⟩ := h
  have hl := a2.len
  have e : ∀ q j : Int, q ≠ 3 → q ≠ 4 → S' q j = S q j := he
  have hE := a2.exg (T' := lset T (62 + hd) u) (S' := S') (fun q j z => e q j (by omega) (by omega)) (fun q hq => lset_ne (by omega))
  obtain ⟨c1, c2, c3, c4⟩ := hE
  have hf : ∀ i, eset s.2.1.2 hd (sky (s.2.1.2 hd) u) i = if i = hd then sky (s.2.1.2 hd) u else s.2.1.2 i := fun i => rfl
  have hk : kE (eset s.2.1.2 hd (sky (s.2.1.2 hd) u)) = kE s.2.1.2 := by
    funext i
    show (eset s.2.1.2 hd (sky (s.2.1.2 hd) u) i).1.1 = (s.2.1.2 i).1.1
    rw [hf]
    split
    · rename_i q
      rw [q]
      rfl
    · rfl
  refine ⟨a1.txt ht he (fun j j0 j1 => lset_ne (by omega)), ⟨c1, c2, fun i i0 i1 => ?_, by rw [hk]; exact c4⟩, fun g g0 g1 => ?_, a4.ex (fun q j z => e q j (by omega) (by omega)), ⟨(e 0 31 (by omega) (by omega)).trans a5.1, a5.2⟩, fun i i0 i1 => ?_⟩
  · show enr _ _ i (eset s.2.1.2 hd (sky (s.2.1.2 hd) u) i)
    rw [hf]
    split
    · rename_i q
      rw [q]
      exact c3 hd (by omega) (by omega)
    · exact c3 i i0 i1
  · rw [e 15 g (by omega) (by omega)]
    exact a3 g g0 g1
  · have hi := a6 i i0 i1
    refine ⟨hi.1, ?_⟩
    show lset T (62 + hd) u (62 + L i) = (eset s.2.1.2 hd (sky (s.2.1.2 hd) u) (L i)).2.2.2
    rw [hf]
    by_cases q : L i = hd
    · rw [if_pos q, q, lset_at]
      rfl
    · rw [if_neg q, lset_ne (by omega)]
      exact hi.2
theorem p_m16 {N : Nat} (hN : 1000 ≤ N) {S : s_M} {T : Int → List Int} {hd ns m : Int} {L : Int → Int} {s : rnT} (h : RX S T hd ns m L s) {n : Int} (hn : rL n) (hp : s.2.2.1.1 < 2147470000) : ∃ S' T', A_more N 16 n S = some (0, S') ∧ RX S' T' hd ns m L (wkE hd 16 (max n 0) s) ∧ exR S S' := by
  have hv : wkE hd 16 (max n 0) s = (sTN s.1, (rset s.2.1.1 (max n 0 % 4) (vN s.1), s.2.1.2), s.2.2) := if_pos rfl
  have hmd := md_eq (c := 4) hn (by decide)
  have hm0 := Int.emod_nonneg (max n 0) (show (4 : Int) ≠ 0 by decide)
  have hm1 := Int.emod_lt_of_pos (max n 0) (show (0 : Int) < 4 by decide)
  obtain ⟨S1, a1, a2, a3, a4⟩ := p_number (N := N) h.1
  have r1 := (h.stk a2 a3 (fun q _ => rfl)).glo (g := max n 0 % 4) a4
  refine ⟨m_s S1 15 (max n 0 % 4) (vN s.1), T, ?_, ?_, a3.exR.trans (exR.put (fun z => absurd rfl z.2.2.2.1))⟩
  · rw [A_more_e, if_pos (by decide), bnd_e a1, hmd, chk_e (by omega), A_more_j35_e, if_neg (by decide), A_more_j52_e, if_neg (by decide), if_neg (by decide), A_more_j69_e, if_neg (by decide), A_more_j101_e, if_neg (by decide), A_more_j117_e, if_neg (by decide), A_more_j138_e]
  · rw [hv]
    exact r1
theorem p_m17 {N : Nat} (hN : 1000 ≤ N) {S : s_M} {T : Int → List Int} {hd ns m : Int} {L : Int → Int} {s : rnT} (h : RX S T hd ns m L s) {n : Int} (hn : rL n) (hp : s.2.2.1.1 < 2147470000) : ∃ S' T', A_more N 17 n S = some (0, S') ∧ RX S' T' hd ns m L (wkE hd 17 (max n 0) s) ∧ exR S S' := by
  have hv : wkE hd 17 (max n 0) s = (sG (0, wi32 (s.2.1.1 (max n 0 % 4)), []) s.1, s.2) := (if_neg (by decide)).trans (if_pos rfl)
  have hmd := md_eq (c := 4) hn (by decide)
  have hm0 := Int.emod_nonneg (max n 0) (show (4 : Int) ≠ 0 by decide)
  have hm1 := Int.emod_lt_of_pos (max n 0) (show (0 : Int) < 4 by decide)
  have hg := h.2.2.1 (max n 0 % 4) (by omega) (by omega)
  obtain ⟨S1, a1, a2, a3⟩ := p_giveNumber (N := N) h.1 (q := s.2.1.1 (max n 0 % 4)) hg.2
  refine ⟨S1, T, ?_, ?_, a3.exR⟩
  · rw [A_more_e, if_neg (by decide), A_more_j35_e, if_pos (by decide), hmd, chk_e (by omega), hg.1, bnd_e a1, A_more_j52_e, if_neg (by decide), if_neg (by decide), A_more_j69_e, if_neg (by decide), A_more_j101_e, if_neg (by decide), A_more_j117_e, if_neg (by decide), A_more_j138_e]
  · rw [hv]
    rw [wi32_id hg.2]
    exact h.stk a2 a3 (fun q _ => rfl)
theorem p_m18 {N : Nat} (hN : 1000 ≤ N) {S : s_M} {T : Int → List Int} {hd ns m : Int} {L : Int → Int} {s : rnT} (h : RX S T hd ns m L s) {n : Int} (hn : rL n) (hp : s.2.2.1.1 < 2147470000) : ∃ S' T', A_more N 18 n S = some (0, S') ∧ RX S' T' hd ns m L (wkE hd 18 (max n 0) s) ∧ exR S S' := by
  have hv : wkE hd 18 (max n 0) s = (sG (hdv hd (uof (u64 (s.2.1.2 hd).1.1))) s.1, s.2) := (if_neg (by decide)).trans ((if_neg (by decide)).trans (if_pos rfl))
  have hmd := md_eq (c := 4) hn (by decide)
  have hm0 := Int.emod_nonneg (max n 0) (show (4 : Int) ≠ 0 by decide)
  have hm1 := Int.emod_lt_of_pos (max n 0) (show (0 : Int) < 4 by decide)
  obtain ⟨S1, T1, a1, a2, a3, a4⟩ := p_entrys (N := N) (by omega) h.1 h.2.1 h.2.2.2.2.1 true
  have a1' : A_entrys N 18 S = some (0, S1) := a1
  refine ⟨S1, T1, ?_, ?_, a3.exR⟩
  · rw [A_more_e, if_neg (by decide), A_more_j35_e, if_neg (by decide), A_more_j52_e, if_pos (by decide), A_more_j64_e, bnd_e a1', A_more_j69_e, if_neg (by decide), A_more_j101_e, if_neg (by decide), A_more_j117_e, if_neg (by decide), A_more_j138_e]
  · rw [hv]
    exact h.stk a2 a3 a4
theorem p_m19 {N : Nat} (hN : 1000 ≤ N) {S : s_M} {T : Int → List Int} {hd ns m : Int} {L : Int → Int} {s : rnT} (h : RX S T hd ns m L s) {n : Int} (hn : rL n) (hp : s.2.2.1.1 < 2147470000) : ∃ S' T', A_more N 19 n S = some (0, S') ∧ RX S' T' hd ns m L (wkE hd 19 (max n 0) s) ∧ exR S S' := by
  have hv : wkE hd 19 (max n 0) s = (sG (hdv hd (uof (u64 (s.2.1.2 hd).1.2.1))) s.1, s.2) := (if_neg (by decide)).trans ((if_neg (by decide)).trans ((if_neg (by decide)).trans (if_pos rfl)))
  have hmd := md_eq (c := 4) hn (by decide)
  have hm0 := Int.emod_nonneg (max n 0) (show (4 : Int) ≠ 0 by decide)
  have hm1 := Int.emod_lt_of_pos (max n 0) (show (0 : Int) < 4 by decide)
  obtain ⟨S1, T1, a1, a2, a3, a4⟩ := p_entrys (N := N) (by omega) h.1 h.2.1 h.2.2.2.2.1 false
  have a1' : A_entrys N 19 S = some (0, S1) := a1
  refine ⟨S1, T1, ?_, ?_, a3.exR⟩
  · rw [A_more_e, if_neg (by decide), A_more_j35_e, if_neg (by decide), A_more_j52_e, if_neg (by decide), if_pos (by decide), A_more_j64_e, bnd_e a1', A_more_j69_e, if_neg (by decide), A_more_j101_e, if_neg (by decide), A_more_j117_e, if_neg (by decide), A_more_j138_e]
  · rw [hv]
    exact h.stk a2 a3 a4
theorem p_m20 {N : Nat} (hN : 1000 ≤ N) {S : s_M} {T : Int → List Int} {hd ns m : Int} {L : Int → Int} {s : rnT} (h : RX S T hd ns m L s) {n : Int} (hn : rL n) (hp : s.2.2.1.1 < 2147470000) : ∃ S' T', A_more N 20 n S = some (0, S') ∧ RX S' T' hd ns m L (wkE hd 20 (max n 0) s) ∧ exR S S' := by
  have hv : wkE hd 20 (max n 0) s = (sTT s.1, (s.2.1.1, if 0 ≤ hd then eset s.2.1.2 hd (sky (s.2.1.2 hd) (vT s.1)) else s.2.1.2), s.2.2) := (if_neg (by decide)).trans ((if_neg (by decide)).trans ((if_neg (by decide)).trans ((if_neg (by decide)).trans (if_pos rfl))))
  obtain ⟨S1, a1, a2, a3, a4, a5⟩ := p_taken (N := N) (by omega) h.1 (t := 82) (by decide)
  have r1 := h.stk a2 a3 (fun q hq => lset_ne (by omega))
  have h31 := r1.2.2.2.2.1
  have hl := h.2.1.len
  by_cases c0 : hd < 0
  · refine ⟨S1, lset T 82 (vT s.1), ?_, ?_, a3.exR⟩
    · rw [A_more_e, if_neg (by decide), A_more_j35_e, if_neg (by decide), A_more_j52_e, if_neg (by decide), if_neg (by decide), A_more_j69_e, if_pos (by decide), bnd_e a1, if_pos (by omega), A_more_j101_e, if_neg (by decide), A_more_j117_e, if_neg (by decide), A_more_j138_e]
    · rw [hv, if_neg (by omega)]
      exact r1
  · obtain ⟨S2, b1, b2, b3⟩ := p_copy (N := N) (by omega) a2.1 (a := 82) (b := 62 + hd) (by decide) (by omega)
    rw [lset_at] at b2
    refine ⟨S2, lset (lset T 82 (vT s.1)) (62 + hd) (vT s.1), ?_, ?_, a3.exR.trans b3.exK.exR⟩
    · rw [A_more_e, if_neg (by decide), A_more_j35_e, if_neg (by decide), A_more_j52_e, if_neg (by decide), if_neg (by decide), A_more_j69_e, if_pos (by decide), bnd_e a1, if_neg (by omega), h31.1, chk_e (by omega), bnd_e b1, A_more_j101_e, if_neg (by decide), A_more_j117_e, if_neg (by decide), A_more_j138_e]
    · rw [hv, if_pos (by omega)]
      exact r1.skk (by omega) b2 b3
theorem p_m21 {N : Nat} (hN : 1000 ≤ N) {S : s_M} {T : Int → List Int} {hd ns m : Int} {L : Int → Int} {s : rnT} (h : RX S T hd ns m L s) {n : Int} (hn : rL n) (hp : s.2.2.1.1 < 2147470000) : ∃ S' T', A_more N 21 n S = some (0, S') ∧ RX S' T' hd ns m L (wkE hd 21 (max n 0) s) ∧ exR S S' := by
  have hv : wkE hd 21 (max n 0) s = (sTT s.1, s.2.1, po (vT s.1) s.2.2.1, s.2.2.2) := (if_neg (by decide)).trans ((if_neg (by decide)).trans ((if_neg (by decide)).trans ((if_neg (by decide)).trans ((if_neg (by decide)).trans (if_pos rfl)))))
  have hmd := md_eq (c := 4) hn (by decide)
  have hm0 := Int.emod_nonneg (max n 0) (show (4 : Int) ≠ 0 by decide)
  have hm1 := Int.emod_lt_of_pos (max n 0) (show (0 : Int) < 4 by decide)
  obtain ⟨S1, a1, a2, a3, a4, a5⟩ := p_taken (N := N) (by omega) h.1 (t := 82) (by decide)
  have r1 := h.stk a2 a3 (fun q hq => lset_ne (by omega))
  obtain ⟨S2, b1, b2, b3⟩ := p_putOut (N := N) hN a2.1 r1.2.2.2.1 hp
  rw [lset_at] at b2
  refine ⟨S2, lset T 82 (vT s.1), ?_, ?_, a3.exR.trans b3.exR⟩
  · rw [A_more_e, if_neg (by decide), A_more_j35_e, if_neg (by decide), A_more_j52_e, if_neg (by decide), if_neg (by decide), A_more_j69_e, if_neg (by decide), A_more_j101_e, if_pos (by decide), bnd_e a1, bnd_e b1, A_more_j117_e, if_neg (by decide), A_more_j138_e]
  · rw [hv]
    exact r1.pag b2 b3
theorem p_m22 {N : Nat} (hN : 1000 ≤ N) {S : s_M} {T : Int → List Int} {hd ns m : Int} {L : Int → Int} {s : rnT} (h : RX S T hd ns m L s) {n : Int} (hn : rL n) (hp : s.2.2.1.1 < 2147470000) : ∃ S' T', A_more N 22 n S = some (0, S') ∧ RX S' T' hd ns m L (wkE hd 22 (max n 0) s) ∧ exR S S' := by
  have hv : wkE hd 22 (max n 0) s = (s.1, s.2.1, eol s.2.2.1, s.2.2.2) := (if_neg (by decide)).trans ((if_neg (by decide)).trans ((if_neg (by decide)).trans ((if_neg (by decide)).trans ((if_neg (by decide)).trans (if_neg (by decide))))))
  have hx := h.2.2.2.1
  have h45 := hx.2.2.1
  by_cases c0 : 0 < s.2.2.1.2.1.length
  · obtain ⟨S1, a1, a2, a3, a4⟩ := p_ends (N := N) hN hx (by omega) (e := s.2.2.1.2.1.length) (Nat.le_refl _)
    rw [List.take_length] at a2
    rw [← h45] at a1
    refine ⟨S1, T, ?_, ?_, a3.exR⟩
    · rw [A_more_e, if_neg (by decide), A_more_j35_e, if_neg (by decide), A_more_j52_e, if_neg (by decide), if_neg (by decide), A_more_j69_e, if_neg (by decide), A_more_j101_e, if_neg (by decide), A_more_j117_e, if_pos (by decide), if_pos (by omega), bnd_e a1, A_more_j138_e]
    · rw [hv, show eol s.2.2.1 = (s.2.2.1.1 + 1, [], kpK s.2.2.1.1 s.2.2.1.2.2 s.2.2.1.2.1) from if_pos c0]
      exact h.pag a2 a3
  · refine ⟨S, T, ?_, ?_, exR.refl S⟩
    · rw [A_more_e, if_neg (by decide), A_more_j35_e, if_neg (by decide), A_more_j52_e, if_neg (by decide), if_neg (by decide), A_more_j69_e, if_neg (by decide), A_more_j101_e, if_neg (by decide), A_more_j117_e, if_pos (by decide), if_neg (by omega), A_more_j138_e]
    · rw [hv, show eol s.2.2.1 = s.2.2.1 from if_neg c0]
      exact h
theorem p_more {N : Nat} (hN : 1000 ≤ N) {S : s_M} {T : Int → List Int} {hd ns m : Int} {L : Int → Int} {s : rnT} (h : RX S T hd ns m L s) {n op : Int} (hn : rL n) (hp : s.2.2.1.1 < 2147470000) (ho : 16 ≤ op ∧ op ≤ 22) : ∃ S' T', A_more N op n S = some (0, S') ∧ RX S' T' hd ns m L (wkE hd op (max n 0) s) ∧ exR S S' := by
  rcases (by omega : op = 16 ∨ op = 17 ∨ op = 18 ∨ op = 19 ∨ op = 20 ∨ op = 21 ∨ op = 22) with q16 | q17 | q18 | q19 | q20 | q21 | q22
  · subst q16
    exact p_m16 hN h hn hp
  · subst q17
    exact p_m17 hN h hn hp
  · subst q18
    exact p_m18 hN h hn hp
  · subst q19
    exact p_m19 hN h hn hp
  · subst q20
    exact p_m20 hN h hn hp
  · subst q21
    exact p_m21 hN h hn hp
  · subst q22
    exact p_m22 hN h hn hp
