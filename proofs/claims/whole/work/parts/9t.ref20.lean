theorem qn_pos {k : skT} (h : 0 < vN k) : ¬ k.2.1 = 0 := fun z => by
  have : vN k = 0 := by
    unfold vN qn
    rw [if_pos z]
  omega
theorem pn_eq {k : skT} : (sTN k).2.1 = pn k.2.1 := rfl
theorem mu_stn {s : rnT} (h : 0 ≤ s.1.2.1) : mu (stn s) ≤ mu s := by
  unfold mu
  show 13 * (400 - s.2.2.2.1) + pn s.1.2.1 ≤ _
  unfold pn
  split <;> omega
theorem mu_stn1 {s : rnT} (h : 0 < vN s.1) : mu (stn s) + 1 ≤ mu s := by
  have := qn_pos h
  unfold mu
  show 13 * (400 - s.2.2.2.1) + pn s.1.2.1 + 1 ≤ _
  unfold pn
  rw [if_neg this]
  omega
theorem RR.mu0 {hd ns m : Int} {L : Int → Int} {K : s_M} {O Q Z : Int → Int} {S : s_M} {T : Int → List Int} {s : rnT} (h : RR S T hd ns m L K O Q Z s) : 0 ≤ mu s ∧ mu s ≤ 5212 := by
  have := h.1.dep
  have := h.2.2.2.2.1
  unfold mu
  omega
theorem mx_eq (n : Int) : (if n < 0 then (0 : Int) else n) = max n 0 := by
  split <;> omega
theorem md1 {x : Int} (hx : 0 ≤ x ∧ x < 9223372036854775808) : wi32 (l_mod x 6) = x % 6 := by
  rw [l_mod_eq hx (by decide)]
  exact wi32_id ⟨by omega, by omega⟩
theorem md2 {x : Int} (hx : 0 ≤ x ∧ x < 9223372036854775808) : wi32 (l_mod (l_quo x 6) 6) = x / 6 % 6 := by
  rw [l_quo_eq hx (by decide), l_mod_eq (by omega) (by decide)]
  exact wi32_id ⟨by omega, by omega⟩
theorem p_ended {N : Nat} {S : s_M} {lv wy x : Int} (h29 : S 0 29 = lv + 1) (hl : 0 ≤ lv ∧ lv < 8) (h20 : S 20 lv = wy) (h21 : S 21 lv = x) : A_ended N S = if wy = 1 then (bnd (A_number N (m_s S 0 29 lv)) fun v24 S25 => if 0 < v24 then (bnd (A_push N (wi32 (l_mod x 6)) 2 x S25) fun v34 S35 => A_ended_j84 N S35) else (A_ended_j55 N x S25)) else (A_ended_j55 N x (m_s S 0 29 lv)) := by
  rw [A_ended_e, h29, show lv + 1 - 1 = lv by omega, h20, h21, chk_e (by omega), chk_e (by omega), chk_e (by omega)]
/-- what comes of a run from S, where s stands: it goes on at a place with B, or it ends for being too much -/
def okT (N : Nat) (hd ns m : Int) (L : Int → Int) (K : s_M) (O Q Z : Int → Int) (S : s_M) (s : rnT) (B : s_M → Prop) (c : Int) (s' : rnT) : Prop := ∃ (k : Nat) (S' : s_M) (T' : Int → List Int), RunT N S S' k ∧ RR S' T' hd ns m L K O Q Z s' ∧ B S' ∧ (k : Int) ≤ 10 * (mu s - mu s') + c
def okF (N : Nat) (hd ns m : Int) (L : Int → Int) (K : s_M) (O Q Z : Int → Int) (S : s_M) (s : rnT) (s' : rnT) : Prop := ∃ (k : Nat) (S' : s_M) (T' : Int → List Int), RunF N S S' k ∧ RX S' T' hd ns m L s' ∧ S' 0 30 = s'.2.2.2.1 ∧ S' 0 32 = 1 ∧ fnk S' K O Q Z ∧ (k : Int) ≤ 10 * mu s + 20
def outc (N : Nat) (hd ns m : Int) (L : Int → Int) (K : s_M) (O Q Z : Int → Int) (S : s_M) (s : rnT) (B : s_M → Prop) (c : Int) (r : Bool × rnT) : Prop := if r.1 = true then okT N hd ns m L K O Q Z S s B c r.2 else okF N hd ns m L K O Q Z S s r.2
theorem outc.t {N : Nat} {hd ns m : Int} {L : Int → Int} {K : s_M} {O Q Z : Int → Int} {S : s_M} {s s' : rnT} {B : s_M → Prop} {c : Int} (h : okT N hd ns m L K O Q Z S s B c s') : outc N hd ns m L K O Q Z S s B c (true, s') := by
  unfold outc
  rw [if_pos (show (true, s').1 = true from rfl)]
  exact h
theorem outc.f {N : Nat} {hd ns m : Int} {L : Int → Int} {K : s_M} {O Q Z : Int → Int} {S : s_M} {s s' : rnT} {B : s_M → Prop} {c : Int} (h : okF N hd ns m L K O Q Z S s s') : outc N hd ns m L K O Q Z S s B c (false, s') := by
  unfold outc
  rw [if_neg (show ¬ (false, s').1 = true from Bool.noConfusion)]
  exact h
theorem outc.yes {N : Nat} {hd ns m : Int} {L : Int → Int} {K : s_M} {O Q Z : Int → Int} {S : s_M} {s : rnT} {B : s_M → Prop} {c : Int} {r : Bool × rnT} (h : outc N hd ns m L K O Q Z S s B c r) (e : r.1 = true) : okT N hd ns m L K O Q Z S s B c r.2 := by
  unfold outc at h
  rw [if_pos e] at h
  exact h
theorem outc.no {N : Nat} {hd ns m : Int} {L : Int → Int} {K : s_M} {O Q Z : Int → Int} {S : s_M} {s : rnT} {B : s_M → Prop} {c : Int} {r : Bool × rnT} (h : outc N hd ns m L K O Q Z S s B c r) (e : ¬ r.1 = true) : okF N hd ns m L K O Q Z S s r.2 := by
  unfold outc at h
  rw [if_neg e] at h
  exact h
theorem okF.pre {N : Nat} {hd ns m : Int} {L : Int → Int} {K : s_M} {O Q Z : Int → Int} {S0 S : s_M} {s0 s s' : rnT} {k0 : Nat} (h0 : RunT N S0 S k0) (hk : (k0 : Int) ≤ 10 * (mu s0 - mu s)) (h : okF N hd ns m L K O Q Z S s s') : okF N hd ns m L K O Q Z S0 s0 s' := by
  obtain ⟨k, S', T', a1, a2, a3, a4, a5, a6⟩ := h
  exact ⟨k + k0, S', T', h0.fin a1, a2, a3, a4, a5, by omega⟩
theorem outc.pre {N : Nat} {hd ns m : Int} {L : Int → Int} {K : s_M} {O Q Z : Int → Int} {S0 S : s_M} {s0 s : rnT} {B B0 : s_M → Prop} {c : Int} {r : Bool × rnT} {k0 : Nat} (h0 : RunT N S0 S k0) (hk : (k0 : Int) ≤ 10 * (mu s0 - mu s)) (hB : ∀ S', B S' → B0 S') (h : outc N hd ns m L K O Q Z S s B c r) : outc N hd ns m L K O Q Z S0 s0 B0 c r := by
  unfold outc at h ⊢
  split at h
  · rename_i q
    rw [if_pos q]
    obtain ⟨k, S', T', a1, a2, a3, a4⟩ := h
    exact ⟨k + k0, S', T', h0.trans a1, a2, hB S' a3, by omega⟩
  · rename_i q
    rw [if_neg q]
    exact h.pre h0 hk
theorem RunT.zero (N : Nat) (S : s_M) : RunT N S S 0 := fun _ => rfl
/-- a function is run to its end, at a level -/
def PF (N : Nat) (hd ns m : Int) (L : Int → Int) (K : s_M) (O Q Z : Int → Int) (d : Nat) : Prop := ∀ (mm : Nat) (lv f p wy lp : Int) (S : s_M) (T : Int → List Int) (s : rnT), lv = 8 - (d : Int) → RR S T hd ns m L K O Q Z s → frm S lv f p wy lp → 0 ≤ p → p + mm = Z f → outc N hd ns m L K O Q Z S s (fun S' => frm S' lv f (Z f) wy lp ∧ exF S S' (lv - 1)) 0 (rlp hd ns O Q (rf hd ns O Q Z d) mm (f * 24 + p) s)
theorem PF.fn {N d : Nat} {hd ns m : Int} {L : Int → Int} {K : s_M} {O Q Z : Int → Int} {S : s_M} {T : Int → List Int} {s : rnT} (hP : PF N hd ns m L K O Q Z d) {lv g wy lp : Int} (hlv : lv = 8 - (d : Int)) (h : RR S T hd ns m L K O Q Z s) (hf : frm S lv g 0 wy lp) : outc N hd ns m L K O Q Z S s (fun S' => frm S' lv g (Z g) wy lp ∧ exF S S' (lv - 1)) 0 (rf hd ns O Q Z (d + 1) g s) := by
  have hz := (h.2.2.2.1.2 g hf.2.2.2.2.2.2.1 hf.2.2.2.2.2.2.2).2.1
  have := hP (Z g).toNat lv g 0 wy lp S T s hlv h hf (by omega) (by omega)
  rw [Int.add_zero] at this
  exact this
theorem p_call {N d : Nat} {hd ns m : Int} {L : Int → Int} {K : s_M} {O Q Z : Int → Int} {S : s_M} {T : Int → List Int} {s : rnT} (hP : ∀ d', d = d' + 1 → PF N hd ns m L K O Q Z d') (hd7 : d ≤ 7) {lv g : Int} (hlv : lv = 8 - (d : Int)) (h : RR S T hd ns m L K O Q Z s) (h29 : S 0 29 = lv) (hg : 0 ≤ g ∧ g < 6) : ∃ S1, A_push N g 0 0 S = some (0, S1) ∧ outc N hd ns m L K O Q Z S1 s (fun S' => S' 0 29 = lv ∧ exF S S' lv) 1 (rf hd ns O Q Z d g s) := by
  have hmu := h.mu0
  cases d with
  | zero =>
    refine ⟨m_s S 0 32 1, p_push8 (by omega), outc.f ?_⟩
    obtain ⟨b1, b2, b3, b4, b5⟩ := h
    exact ⟨1, m_s S 0 32 1, T, headF (by rw [m_sj (by decide)]; omega) m_s_s, b1.exz (exZ.put (by omega)), by rw [m_sj (by decide)]; exact b2, m_s_s, b4.ex (fun q j z => m_s_n (by omega)), by omega⟩
  | succ d' =>
    obtain ⟨f1, f2, f3, f4⟩ := psh_frm (S := S) (wy := 0) (x := 0) (lv := lv) (by omega) hg
    have hR := h.pshd (lv := lv) (g := g) (wy := 0) (x := 0) (by omega) hg
    refine ⟨psh S lv g 0 0, p_push h29 (by omega), ?_⟩
    have r := (hP d' rfl).fn (lv := lv + 1) (by omega) hR f1
    by_cases hb : (rf hd ns O Q Z (d' + 1) g s).1 = true
    · obtain ⟨k, S2, T2, r1, r2, ⟨r3, r4⟩, r5⟩ := r.yes hb
      have r3' := r3
      obtain ⟨e29, e8, e18, e19, e20, e21, e6⟩ := r3
      rw [show lv + 1 - 1 = lv by omega] at e18 e19 e20 e21 r4
      have he := p_ended (N := N) e29 (by omega) e20 e21
      have he2 : A_ended N S2 = some (0, m_s S2 0 29 lv) := by
        rw [he, if_neg (by decide), A_ended_j55_e, m_s_s, chk_e (by omega), m_sk (by decide), e20, if_neg (by decide), A_ended_j84_e]
      have hh := headE r2.2.2.2.1 r2.2.2.1 r3' (by omega) he2
      unfold outc
      rw [if_pos hb]
      exact ⟨1 + k, m_s S2 0 29 lv, T2, r1.trans hh, r2.deep, ⟨m_s_s, (f2.trans r4).trans (fun q j z _ _ => m_sk (by omega))⟩, by omega⟩
    · unfold outc
      rw [if_neg hb]
      exact r.no hb
theorem RR.num {N : Nat} {hd ns m : Int} {L : Int → Int} {K : s_M} {O Q Z : Int → Int} {S : s_M} {T : Int → List Int} {s : rnT} (h : RR S T hd ns m L K O Q Z s) : ∃ S', A_number N S = some (vN s.1, S') ∧ RR S' T hd ns m L K O Q Z (stn s) ∧ exK S S' := by
  obtain ⟨S1, a1, a2, a3, a4⟩ := p_number (N := N) h.1.1
  exact ⟨S1, a1, h.after (h.1.stk a2 a3 (fun q _ => rfl)) a3.exR rfl h.2.2.2.2, a3⟩
theorem exK.k29 {S S' : s_M} (h : exK S S') : S' 0 29 = S 0 29 := h 0 29 (by decide) (by decide) (by decide) (by decide) (by decide) (by omega)
theorem p_whl {N d' : Nat} {hd ns m : Int} {L : Int → Int} {K : s_M} {O Q Z : Int → Int} (hP : PF N hd ns m L K O Q Z d') (hd6 : d' ≤ 6) {lv x : Int} (hlv : lv = 7 - (d' : Int)) (hx : 0 ≤ x ∧ x < 9223372036854775808) : ∀ (M : Nat) (S : s_M) (T : Int → List Int) (s : rnT), mu s < M → RR S T hd ns m L K O Q Z s → frm S (lv + 1) (x / 6 % 6) 0 1 x → outc N hd ns m L K O Q Z S s (fun S' => S' 0 29 = lv ∧ exF S S' lv) 1 (whl (rf hd ns O Q Z (d' + 1)) (x / 6 % 6) (x % 6) M s)
  | 0, S, T, s, hm, h, hf => by
    have := h.mu0
    omega
  | M + 1, S, T, s, hm, h, hf => by
    have hl8 : 0 ≤ lv ∧ lv < 8 := by omega
    have t := hP.fn (lv := lv + 1) (by omega) h hf
    rw [whl_s]
    by_cases ha : (rf hd ns O Q Z (d' + 1) (x / 6 % 6) s).1 = true
    · rw [if_pos ha]
      obtain ⟨k1, S1, T1, r1, r2, ⟨r3, r4⟩, r5⟩ := t.yes ha
      have r3' := r3
      obtain ⟨e29, e8, e18, e19, e20, e21, e6⟩ := r3
      rw [show lv + 1 - 1 = lv by omega] at e18 e19 e20 e21 r4
      generalize hs1 : (rf hd ns O Q Z (d' + 1) (x / 6 % 6) s).2 = s1 at r2 r5 ⊢
      have he := p_ended (N := N) e29 hl8 e20 e21
      rw [if_pos rfl] at he
      obtain ⟨S2, n1, n2, n3⟩ := (r2.deep (x := lv)).num (N := N)
      have k29 : S2 0 29 = lv := n3.k29.trans m_s_s
      have x11 : exF S1 (m_s S1 0 29 lv) 8 := fun q j z _ _ => m_sk (by omega)
      have x12 : exF S1 S2 8 := x11.trans (n3.exR.exF 8)
      rw [bnd_e n1] at he
      have hdp := r2.1.dep
      have mst := mu_stn hdp.1
      by_cases hv : 0 < vN s1.1
      · rw [if_pos hv] at he ⊢
        have ms1 := mu_stn1 hv
        rw [bnd_e (p_push k29 hl8), A_ended_j84_e, md1 hx] at he
        have hg : 0 ≤ x % 6 ∧ x % 6 < 6 := by omega
        obtain ⟨f1, f2, f3, f4⟩ := psh_frm (S := S2) (wy := 2) (x := x) hl8 hg
        have hR := n2.pshd (lv := lv) (g := x % 6) (wy := 2) (x := x) hl8 hg
        have h1 := headE r2.2.2.2.1 r2.2.2.1 r3' (by omega) he
        have t2 := hP.fn (lv := lv + 1) (by omega) hR f1
        by_cases hb : (rf hd ns O Q Z (d' + 1) (x % 6) (stn s1)).1 = true
        · rw [if_pos hb]
          obtain ⟨k3, S4, T4, q1, q2, ⟨q3, q4⟩, q5⟩ := t2.yes hb
          have q3' := q3
          obtain ⟨g29, g8, g18, g19, g20, g21, g6⟩ := q3
          rw [show lv + 1 - 1 = lv by omega] at g18 g19 g20 g21 q4
          generalize hs3 : (rf hd ns O Q Z (d' + 1) (x % 6) (stn s1)).2 = s3 at q2 q5 ⊢
          have hg2 : 0 ≤ x / 6 % 6 ∧ x / 6 % 6 < 6 := by omega
          have he3 := p_ended (N := N) g29 hl8 g20 g21
          rw [if_neg (by decide), A_ended_j55_e, m_s_s, chk_e (by omega), m_sk (by decide), g20, if_pos rfl, bnd_e (p_push m_s_s hl8), A_ended_j84_e, md2 hx] at he3
          have h2 := headE q2.2.2.2.1 q2.2.2.1 q3' (by omega) he3
          obtain ⟨u1, u2, u3, u4⟩ := psh_frm (S := m_s S4 0 29 lv) (wy := 1) (x := x) hl8 hg2
          have hR2 := (q2.deep (x := lv)).pshd (lv := lv) (g := x / 6 % 6) (wy := 1) (x := x) hl8 hg2
          have ih := p_whl hP hd6 hlv hx M _ T4 s3 (by omega) hR2 u1
          refine ih.pre (((r1.trans h1).trans q1).trans h2) (by omega) (fun S' hB => ⟨hB.1, ?_⟩)
          exact ((((r4.trans (x12.less (by omega))).trans f2).trans q4).trans (fun q j z _ _ => m_sk (by omega))).trans (u2.trans hB.2)
        · rw [if_neg hb]
          exact outc.f ((t2.no hb).pre (r1.trans h1) (by omega))
      · rw [if_neg hv] at he ⊢
        have e2 : A_ended N S1 = some (0, S2) := by
          rw [he, A_ended_j55_e, k29, chk_e (by omega), (x12 20 lv (by omega) (by omega) (by omega)), e20, if_neg (by decide), A_ended_j84_e]
        have h1 := headE r2.2.2.2.1 r2.2.2.1 r3' (by omega) e2
        exact outc.t ⟨1 + k1, S2, T1, r1.trans h1, n2, ⟨k29, r4.trans (x12.less (by omega))⟩, by omega⟩
    · rw [if_neg ha]
      exact outc.f (t.no ha)
/-- an operation that calls -/
theorem p_stepC {N d : Nat} {hd ns m : Int} {L : Int → Int} {K : s_M} {O Q Z : Int → Int} {S : s_M} {T : Int → List Int} {s : rnT} (hP : ∀ d', d = d' + 1 → PF N hd ns m L K O Q Z d') (hd7 : d ≤ 7) {lv f p wy lp : Int} (hlv : lv = 8 - (d : Int)) (h : RR S T hd ns m L K O Q Z s) (hf : frm S lv f p wy lp) (hp : 0 ≤ p ∧ p < Z f) (h4 : s.2.2.2.1 < 400) (ho : 13 ≤ O (f * 24 + p) ∧ O (f * 24 + p) ≤ 15) : ∃ S1, A_operate N S = some (0, S1) ∧ outc N hd ns m L K O Q Z S1 (dni s) (fun S' => S' 0 29 = lv ∧ exF (opS S lv p) S' lv) 1 (stp hd ns (rf hd ns O Q Z d) (O (f * 24 + p)) (Q (f * 24 + p)) (dni s)) := by
  have hf' := hf
  obtain ⟨h29, h8, h18, h19, h20, h21, hf6⟩ := hf
  obtain ⟨z1, z2, z3⟩ := h.2.2.2.1.2 f hf6.1 hf6.2
  obtain ⟨o1, o2, o3, o4⟩ := z3 p hp.1 hp.2
  have hrk := h.2.2.2.2
  have hdn := h.2.1
  have hR := h.opd h4 (lv := lv) (p := p)
  obtain ⟨f1, f2⟩ := opS_frm hf'
  have hop := p_operate (N := N) hf' (by omega) (by have := hrk.1; omega) o1 rfl
  rw [mx_eq] at hop
  rw [if_pos ho.1] at o4
  have hx : 0 ≤ Q (f * 24 + p) ∧ Q (f * 24 + p) < 9223372036854775808 := by
    have := o3.2
    omega
  rw [← o4] at hop
  generalize hxx : Q (f * 24 + p) = x at hop hx ⊢
  have hst : stp hd ns (rf hd ns O Q Z d) (O (f * 24 + p)) x (dni s) = rin (rf hd ns O Q Z d) (O (f * 24 + p)) x (dni s) := (if_neg (by omega)).trans ((if_neg (by omega)).trans (if_neg (by omega)))
  rw [hst]
  have k29 : opS S lv p 0 29 = lv := f1.1
  have hmu := hR.mu0
  have hdp := hR.1.dep
  rcases (by omega : O (f * 24 + p) = 13 ∨ O (f * 24 + p) = 14 ∨ O (f * 24 + p) = 15) with q | q | q
  · rw [q, if_pos rfl] at hop
    obtain ⟨S2, n1, n2, n3⟩ := hR.num (N := N)
    rw [bnd_e n1] at hop
    have mst := mu_stn hdp.1
    have hr : rin (rf hd ns O Q Z d) (O (f * 24 + p)) x (dni s) = rf hd ns O Q Z d (if 0 < vN (dni s).1 then x / 6 % 6 else x % 6) (stn (dni s)) := by
      rw [q]
      unfold rin
      rw [if_neg (by decide), if_pos rfl]
      split <;> rfl
    have hw : wi32 (if 0 < vN (dni s).1 then (l_mod (l_quo x 6) 6 : Int) else (l_mod x 6)) = if 0 < vN (dni s).1 then x / 6 % 6 else x % 6 := by
      split
      · exact md2 hx
      · exact md1 hx
    rw [hw] at hop
    rw [hr]
    obtain ⟨S3, c1, c2⟩ := p_call hP hd7 hlv n2 (n3.k29.trans k29) (g := if 0 < vN (dni s).1 then x / 6 % 6 else x % 6) (by split <;> omega)
    rw [bnd_e c1, A_operate_j220_e] at hop
    exact ⟨S3, hop, c2.pre (RunT.zero N S3) (by omega) (fun S' hB => ⟨hB.1, (n3.exR.exF lv).trans hB.2⟩)⟩
  · rw [q, if_neg (by decide), if_pos rfl, md2 hx] at hop
    have hr : rin (rf hd ns O Q Z d) (O (f * 24 + p)) x (dni s) = whl (rf hd ns O Q Z d) (x / 6 % 6) (x % 6) ((1000000 : Int) - 0).toNat (dni s) := by
      rw [q]
      unfold rin
      rw [if_pos rfl]
    rw [hr]
    have hg : 0 ≤ x / 6 % 6 ∧ x / 6 % 6 < 6 := by omega
    cases d with
    | zero =>
      rw [bnd_e (p_push8 (by rw [k29]; omega)), A_operate_j220_e] at hop
      refine ⟨_, hop, ?_⟩
      rw [show ((1000000 : Int) - 0).toNat = 999999 + 1 by decide, whl_s]
      show outc N hd ns m L K O Q Z _ _ _ _ (if false = true then _ else (false, dni s))
      rw [if_neg (by decide)]
      obtain ⟨b1, b2, b3, b4, b5⟩ := hR
      exact outc.f ⟨1, m_s (opS S lv p) 0 32 1, T, headF (by rw [m_sj (by decide)]; omega) m_s_s, b1.exz (exZ.put (by omega)), by rw [m_sj (by decide)]; exact b2, m_s_s, b4.ex (fun q j z => m_s_n (by omega)), by omega⟩
    | succ d' =>
      have hl8 : 0 ≤ lv ∧ lv < 8 := by omega
      rw [bnd_e (p_push k29 hl8), A_operate_j220_e] at hop
      obtain ⟨u1, u2, u3, u4⟩ := psh_frm (S := opS S lv p) (wy := 1) (x := x) hl8 hg
      have hR2 := hR.pshd (lv := lv) (g := x / 6 % 6) (wy := 1) (x := x) hl8 hg
      have w := p_whl (hP d' rfl) (by omega) (lv := lv) (by omega) hx ((1000000 : Int) - 0).toNat _ T (dni s) (by omega) hR2 u1
      exact ⟨_, hop, w.pre (RunT.zero N _) (by omega) (fun S' hB => ⟨hB.1, u2.trans hB.2⟩)⟩
  · rw [q, if_neg (by decide), if_neg (by decide), if_pos rfl, md1 hx] at hop
    have hr : rin (rf hd ns O Q Z d) (O (f * 24 + p)) x (dni s) = rf hd ns O Q Z d (x % 6) (dni s) := by
      rw [q]
      unfold rin
      rw [if_neg (by decide), if_neg (by decide)]
    rw [hr]
    obtain ⟨S3, c1, c2⟩ := p_call hP hd7 hlv hR k29 (g := x % 6) (by omega)
    rw [bnd_e c1, A_operate_j220_e] at hop
    exact ⟨S3, hop, c2⟩
theorem mu_dni {s : rnT} : mu (dni s) = mu s - 13 := by
  unfold mu
  show 13 * (400 - (s.2.2.2.1 + 1)) + s.1.2.1 = _
  omega
theorem p_fun {N d : Nat} (hN : 1000 ≤ N) {hd ns m : Int} {L : Int → Int} {K : s_M} {O Q Z : Int → Int} (hP : ∀ d', d = d' + 1 → PF N hd ns m L K O Q Z d') (hd7 : d ≤ 7) : PF N hd ns m L K O Q Z d
  | 0, lv, f, p, wy, lp, S, T, s, hlv, h, hf, hp, hm => outc.t ⟨0, S, T, RunT.zero N S, h, ⟨by rw [show Z f = p by omega]; exact hf, exF.refl S _⟩, by omega⟩
  | mm + 1, lv, f, p, wy, lp, S, T, s, hlv, h, hf, hp, hm => by
    have hmu := h.mu0
    rw [rlp_s]
    by_cases h4 : 400 ≤ s.2.2.2.1
    · rw [if_pos h4]
      have hop : A_operate N S = some (0, m_s S 0 32 1) := by
        have := h.2.2.2.2.1
        have := h.2.1
        rw [A_operate_e, if_pos (by omega)]
      have h1 := headO h.2.2.2.1 h.2.2.1 hf (by omega) hop
      have h29 := hf.1
      have hl := hf.2.1
      have hF : RunF N (m_s S 0 32 1) (m_s S 0 32 1) 1 := headF (by rw [m_sj (by decide)]; omega) m_s_s
      obtain ⟨b1, b2, b3, b4, b5⟩ := h
      exact outc.f ⟨1 + 1, m_s S 0 32 1, T, h1.fin hF, b1.exz (exZ.put (by omega)), by rw [m_sj (by decide)]; exact b2, m_s_s, b4.ex (fun q j z => m_s_n (by omega)), by omega⟩
    · rw [if_neg h4]
      by_cases ho : 13 ≤ O (f * 24 + p) ∧ O (f * 24 + p) ≤ 15
      · obtain ⟨S1, a1, a2⟩ := p_stepC (N := N) hP hd7 hlv h hf ⟨hp, by omega⟩ (by omega) ho
        have h1 := headO h.2.2.2.1 h.2.2.1 hf (by omega) a1
        obtain ⟨f1, f2⟩ := opS_frm hf
        have hmd := mu_dni (s := s)
        by_cases hr : (stp hd ns (rf hd ns O Q Z d) (O (f * 24 + p)) (Q (f * 24 + p)) (dni s)).1 = true
        · rw [if_pos hr]
          obtain ⟨k, S2, T2, r1, r2, ⟨r3, r4⟩, r5⟩ := a2.yes hr
          have hl := hf.2.1
          have ff : frm S2 lv f (p + 1) wy lp := by
            obtain ⟨e29, e8, e18, e19, e20, e21, e6⟩ := f1
            exact ⟨r3, e8, (r4 18 _ (by omega) (by omega) (by omega)).trans e18, (r4 19 _ (by omega) (by omega) (by omega)).trans e19, (r4 20 _ (by omega) (by omega) (by omega)).trans e20, (r4 21 _ (by omega) (by omega) (by omega)).trans e21, e6⟩
          have ih := p_fun hN hP hd7 mm lv f (p + 1) wy lp S2 T2 _ hlv r2 ff (by omega) (by omega)
          rw [show f * 24 + (p + 1) = f * 24 + p + 1 by omega] at ih
          exact ih.pre (h1.trans r1) (by omega) (fun S' hB => ⟨hB.1, (f2.trans (r4.less (by omega))).trans hB.2⟩)
        · rw [if_neg hr]
          exact outc.f ((a2.no hr).pre h1 (by omega))
      · obtain ⟨S1, T1, a1, a2, a3, a4, a5, a6⟩ := p_stepS (N := N) hN h hf ⟨hp, by omega⟩ (by omega) (by omega) d
        rw [if_pos a2]
        have h1 := headO h.2.2.2.1 h.2.2.1 hf (by omega) a1
        have ih := p_fun hN hP hd7 mm lv f (p + 1) wy lp S1 T1 _ hlv a3 a4 (by omega) (by omega)
        rw [show f * 24 + (p + 1) = f * 24 + p + 1 by omega] at ih
        exact ih.pre h1 (by omega) (fun S' hB => ⟨hB.1, a5.trans hB.2⟩)
theorem PF_all {N : Nat} (hN : 1000 ≤ N) {hd ns m : Int} {L : Int → Int} {K : s_M} {O Q Z : Int → Int} : ∀ d : Nat, d ≤ 7 → PF N hd ns m L K O Q Z d
  | 0, h => p_fun hN (fun d' e => absurd e (by omega)) h
  | d + 1, h => p_fun hN (fun d' e => by
      rw [show d' = d by omega]
      exact PF_all hN d (by omega)) h
