/-- what reading a value changes, warnings among it -/
def exRd (S S' : s_M) : Prop := ∀ q j : Int, q ≠ 1 → q ≠ 3 → q ≠ 4 → ¬ (q = 0 ∧ 17 ≤ j ∧ j ≤ 21) → S' q j = S q j
theorem exRd.refl (S : s_M) : exRd S S := fun _ _ _ _ _ _ => rfl
theorem exRd.trans {A B C : s_M} (h1 : exRd A B) (h2 : exRd B C) : exRd A C := fun q j a b c d => (h2 q j a b c d).trans (h1 q j a b c d)
theorem exW.exRd {S S' : s_M} (h : exW S S') : exRd S S' := fun q j a b c d => h q j b c (by omega)
theorem oth_exR {S : s_M} : exRd S (oth S) := fun q j a b c d => by
  unfold oth
  rw [m_s_n (by omega), m_s_n (by omega), m_s_n (by omega)]
/-- the strings that have names -/
def sts (S : s_M) (T : Int → List Int) (W : Int → Int) (Y : Int → List Int) (nr : Int) : Prop := S 0 11 = nr ∧ (0 ≤ nr ∧ nr ≤ 8) ∧ (∀ e : Int, 0 ≤ e → e < nr → S 9 e = W e ∧ T (54 + e) = Y e ∧ prt (Y e) ∧ (Y e).length ≤ 60) ∧ dst_ W nr ∧ ∀ k : Int, 0 ≤ k → k < 8 → (Y k).length ≤ 60
theorem sts.ex {S S' : s_M} {T T' : Int → List Int} {W : Int → Int} {Y : Int → List Int} {nr : Int} (h : sts S T W Y nr) (e : exRd S S') (eT : ∀ q : Int, q ≠ 82 → T' q = T q) : sts S' T' W Y nr := by
  obtain ⟨h1, h2, h3, h4⟩ := h
  refine ⟨(e 0 11 (by decide) (by decide) (by decide) (by omega)).trans h1, h2, fun i i0 i1 => ?_, h4⟩
  obtain ⟨a1, a2, a3, a4⟩ := h3 i i0 i1
  exact ⟨(e 9 i (by decide) (by decide) (by decide) (by omega)).trans a1, (eT _ (by omega)).trans a2, a3, a4⟩
theorem WX.no1 {S : s_M} {WN : Int → Int} (h : WX S WN) : WX (oth S) (inc WN 1) := by
  have := h.bump (i := 1) (by decide)
  refine this.ex (fun j => ?_)
  unfold oth
  rw [m_sk (by decide), m_sk (by decide)]
theorem oth_18 {S : s_M} : oth S 0 18 = 1 := m_s_s
theorem oth_21 {S : s_M} : oth S 0 21 = S 0 21 + 1 := by
  unfold oth
  rw [m_sj (by decide), m_s_s]
/-- a part of a value was read: whether, the place, the warnings -/
def rdR (S S' : s_M) (T T' : Int → List Int) (WN : Int → Int) (ok : Bool) (pl : Int) : Prop := TX S' T' ∧ (∀ q : Int, q ≠ 82 → T' q = T q) ∧ exRd S S' ∧ WX S' (if ok = true then WN else inc WN 1) ∧ S' 0 17 = pl ∧ S' 0 18 = (if ok = true then 0 else 1) ∧ S' 0 21 = S 0 21 + (if ok = true then 0 else 1)
theorem rdR.no {S S1 : s_M} {T T' : Int → List Int} {WN : Int → Int} {pl : Int} (ht : TX S1 T') (eT : ∀ q : Int, q ≠ 82 → T' q = T q) (e : exRd S S1) (hw : WX S1 WN) (h17 : S1 0 17 = pl) (h21 : S1 0 21 = S 0 21) : rdR S (oth S1) T T' WN false pl := ⟨oth_tx ht, eT, e.trans oth_exR, by rw [if_neg (by decide)]; exact hw.no1, oth_17.trans h17, by rw [if_neg (by decide)]; exact oth_18, by rw [if_neg (by decide), oth_21, h21]⟩
theorem rdR.ok {S S1 : s_M} {T T' : Int → List Int} {WN : Int → Int} {pl : Int} (ht : TX S1 T') (eT : ∀ q : Int, q ≠ 82 → T' q = T q) (e : exRd S S1) (hw : WX S1 WN) (h17 : S1 0 17 = pl) (h18 : S1 0 18 = 0) (h21 : S1 0 21 = S 0 21) : rdR S S1 T T' WN true pl := ⟨ht, eT, e, by rw [if_pos rfl]; exact hw, h17, by rw [if_pos rfl]; exact h18, by rw [if_pos rfl, h21, Int.add_zero]⟩
theorem WX.exw {S S' : s_M} {WN : Int → Int} (h : WX S WN) (e : exW S S') : WX S' WN := h.ex (fun j => e 1 j (by decide) (by decide) (by omega))
theorem pcR.rd {S S' : s_M} {T T' : Int → List Int} {ok : Bool} {pl : Int} {s : vst} {F F' : Int} {WN : Int → Int} (h : pcR S S' T T' ok pl s F F') (hw : WX S WN) (h18 : S 0 18 = 0) : rdR S S' T T' WN ok pl := by
  obtain ⟨h1, h2, h3⟩ := h
  cases ok with
  | true =>
    rw [if_pos rfl] at h3
    obtain ⟨a1, a2, a3, a4⟩ := h3
    exact rdR.ok h1 h2 a1.exRd (hw.exw a1) a2 ((a1 0 18 (by decide) (by decide) (by omega)).trans h18) (a1 0 21 (by decide) (by decide) (by omega))
  | false =>
    rw [if_neg (by decide)] at h3
    obtain ⟨S3, d1, d2, d3⟩ := h3
    rw [d3] at h1 ⊢
    exact ⟨h1, h2, d1.exRd.trans oth_exR, by rw [if_neg (by decide)]; exact (hw.exw d1).no1, oth_17.trans d2, by rw [if_neg (by decide)]; exact oth_18, by rw [if_neg (by decide), oth_21, d1 0 21 (by decide) (by decide) (by omega)]⟩
theorem pcR.fd {S S' : s_M} {T T' : Int → List Int} {ok : Bool} {pl : Int} {s : vst} {F F' : Int} (h : pcR S S' T T' ok pl s F F') (hk : ok = true) : fdk S' T' s.1 (s.2 12) (s.2 13) F' ∧ F' ≤ F := by
  obtain ⟨h1, h2, h3⟩ := h
  rw [if_pos hk] at h3
  exact h3.2.2
theorem prt_apc {u : List Int} {b e : Int} {s : vst} (h : ∀ j : Int, b ≤ j → j < e → tg u j = 10 ∨ (32 ≤ tg u j ∧ tg u j ≤ 126)) (hv : prt s.1) : prt (apc u b e s).1 := by
  unfold apc
  refine it_P (aps u) (fun s => prt s.1) b (b + ((e - b).toNat : Int)) (fun j s j0 j1 hs => ?_) _ b s (Int.le_refl _) (Int.le_refl _) hv
  have hc := h j j0 (by omega)
  show prt (avv (tg u j) s.1 (s.2 12))
  unfold avv
  split
  · exact hs
  · rename_i hb
    have h1 : prt (av1 s.1 (s.2 12)) := by
      unfold av1
      split
      · exact prt_ta hs (by decide)
      · exact hs
    refine prt_ta h1 ?_
    rcases hc with q | q
    · exact absurd (show p_bl (tg u j) = true from decide_eq_true (Or.inr q)) hb
    · exact q
theorem p_wc_pos {c : Int} (h : p_wc c = true) : 0 < c := by
  simp only [p_wc, p_let, p_sml, p_cap, p_dig, Bool.or_eq_true, decide_eq_true_eq] at h
  omega
theorem tkr_num {t : List Int} : ∀ (m : Nat) (k i v : Int), 0 ≤ k → ∃ ds : List Int, (∀ d ∈ ds, (0 < d ∧ d < 128) ∧ p_wc d = true) ∧ (tkr t m k i v).1 = v + wnum ds * pow8 k
  | 0, k, i, v, h => ⟨[], (fun d hd => by cases hd), by show v = v + 0 * pow8 k; omega⟩
  | m + 1, k, i, v, h => by
    have e : tkr t (m + 1) k i v = if p_wc (tg t i) = true then tkr t m (k + 1) (i + 1) (v + p_low (tg t i) * pow8 k) else (v, i) := rfl
    by_cases c : p_wc (tg t i) = true
    · rw [e, if_pos c]
      obtain ⟨ds, d1, d2⟩ := tkr_num (t := t) m (k + 1) (i + 1) (v + p_low (tg t i) * pow8 k) (by omega)
      have hw : p_wc (p_low (tg t i)) = true := p_wc_low.trans c
      refine ⟨p_low (tg t i) :: ds, fun d hd => ?_, ?_⟩
      · rcases List.mem_cons.mp hd with q | q
        · rw [q]
          exact ⟨⟨p_wc_pos hw, (p_low_w c).2⟩, hw⟩
        · exact d1 d q
      · rw [d2, pow8_succ h]
        show v + p_low (tg t i) * pow8 k + wnum ds * (256 * pow8 k) = v + (p_low (tg t i) + 256 * wnum ds) * pow8 k
        rw [Int.add_mul, Int.mul_comm 256 (wnum _), Int.mul_assoc (wnum _) 256 (pow8 k)]
        omega
    · rw [e, if_neg c]
      exact ⟨[], (fun d hd => by cases hd), by show v = v + 0 * pow8 k; omega⟩
theorem tkw_wdk {t : List Int} {i : Int} (h : (tkw t i).1 ≠ 0) : wdk (tkw t i).1 := by
  obtain ⟨ds, d1, d2⟩ := tkr_num (t := t) ((8 : Int) - 0).toNat 0 (pb t i) 0 (by omega)
  have e : (tkw t i).1 = wnum ds := by
    unfold tkw
    rw [d2]
    show 0 + wnum ds * 1 = wnum ds
    omega
  refine ⟨ds, fun z => h ?_, d1, e⟩
  rw [e, z]
  rfl
/-- what a piece comes to, beside the program's r -/
def pcK (S S' : s_M) (T T' : Int → List Int) (t : List Int) (Y : Int → List Int) (p : Int) (v : List Int) (F F' a : Int) (r : Bool × (Int → Int) × (Int → Int)) : Prop := rdR S S' T T' r.2.2 r.1 (r.2.1 6) ∧ a ≤ r.2.1 6 ∧ (r.1 = true → fdk S' T' (apc (ptx t Y p r.2.1) (r.2.1 9) (r.2.1 10) (v, r.2.1)).1 ((apc (ptx t Y p r.2.1) (r.2.1 9) (r.2.1 10) (v, r.2.1)).2 12) ((apc (ptx t Y p r.2.1) (r.2.1 9) (r.2.1 10) (v, r.2.1)).2 13) F' ∧ F' ≤ F + 640 ∧ prt (apc (ptx t Y p r.2.1) (r.2.1 9) (r.2.1 10) (v, r.2.1)).1)
theorem pcK.mk {S S' : s_M} {T T' : Int → List Int} {t : List Int} {Y : Int → List Int} {p : Int} {v u : List Int} {F F' a b e : Int} {ok : Bool} {V' WN' : Int → Int} (h1 : rdR S S' T T' WN' ok (V' 6)) (h2 : ok = true → ptx t Y p V' = u ∧ V' 9 = b ∧ V' 10 = e) (h3 : ok = true → fdk S' T' (apc u b e (v, V')).1 ((apc u b e (v, V')).2 12) ((apc u b e (v, V')).2 13) F' ∧ F' ≤ F + 640) (hc : ∀ j : Int, b ≤ j → j < e → tg u j = 10 ∨ (32 ≤ tg u j ∧ tg u j ≤ 126)) (hv : prt v) (ha : a ≤ V' 6) : pcK S S' T T' t Y p v F F' a (ok, V', WN') := by
  refine ⟨h1, ha, fun hk => ?_⟩
  obtain ⟨e1, e2, e3⟩ := h2 hk
  show fdk S' T' (apc (ptx t Y p V') (V' 9) (V' 10) (v, V')).1 ((apc (ptx t Y p V') (V' 9) (V' 10) (v, V')).2 12) ((apc (ptx t Y p V') (V' 9) (V' 10) (v, V')).2 13) F' ∧ F' ≤ F + 640 ∧ prt (apc (ptx t Y p V') (V' 9) (V' 10) (v, V')).1
  rw [e1, e2, e3]
  exact ⟨(h3 hk).1, (h3 hk).2, prt_apc hc hv⟩
theorem rdR.from {S0 S S' : s_M} {T T' : Int → List Int} {WN : Int → Int} {ok : Bool} {pl : Int} (x : exRd S0 S) (e : S 0 21 = S0 0 21) (h : rdR S S' T T' WN ok pl) : rdR S0 S' T T' WN ok pl := by
  obtain ⟨h1, h2, h3, h4, h5, h6, h7⟩ := h
  exact ⟨h1, h2, x.trans h3, h4, h5, h6, by rw [h7, e]⟩
theorem bkV_12 {t : List Int} {p : Int} {V : Int → Int} : bkV t p V 12 = V 12 ∧ bkV t p V 13 = V 13 := by
  unfold bkV
  split <;> simp [spV, rset]
theorem qkV_12 {t : List Int} {p : Int} {V : Int → Int} : qkV t p V 12 = V 12 ∧ qkV t p V 13 = V 13 := by
  unfold qkV
  split <;> simp [spV, rset]
theorem ptx_t {t : List Int} {Y : Int → List Int} {p : Int} {V : Int → Int} (h : V 8 = p + 1) : ptx t Y p V = t := if_pos h
theorem fdk.cg {S : s_M} {T : Int → List Int} {v : List Int} {a b a' b' F : Int} (h : fdk S T v a b F) (e1 : a' = a) (e2 : b' = b) : fdk S T v a' b' F := by
  rw [e1, e2]
  exact h
theorem p_piece {N : Nat} (hN : 1000 ≤ N) {S : s_M} {T : Int → List Int} {t v : List Int} {W : Int → Int} {Y : Int → List Int} {p F : Int} {V WN : Int → Int} (ht : TX S T) (hs : srx S t) (hst : sts S T W Y (V 5)) (hw : WX S WN) (h17 : S 0 17 = V 6) (h0 : 0 ≤ V 6 ∧ V 6 ≤ (t.length : Int)) (h18 : S 0 18 = 0) (h21 : 0 ≤ S 0 21 ∧ S 0 21 < 1000) (hf : fdk S T v (V 12) (V 13) F) (hF : F ≤ 900000) (hv : prt v) : ∃ S' T' F', A_piece N S = some (0, S') ∧ pcK S S' T T' t Y p v F F' (V 6) (tpc t W Y p V WN) := by
  have h320 := hs.2.1
  have hb := p_blanks (N := N) hN hs h17 h0
  have hq := pb_in (t := t) h0.2
  have hs1 : srx (m_s S 0 17 (pb t (V 6))) t := hs.at
  have hh := p_here (N := N) hs1 m_s_s (by omega)
  have ht1 : TX (m_s S 0 17 (pb t (V 6))) T := ht.ex (fun q j z => m_sk (by omega))
  have k18 : m_s S 0 17 (pb t (V 6)) 0 18 = 0 := (m_sj (by decide)).trans h18
  have k21 : m_s S 0 17 (pb t (V 6)) 0 21 = S 0 21 := m_sj (by decide)
  have x1 : exRd S (m_s S 0 17 (pb t (V 6))) := exW.at.exRd
  have hw1 : WX (m_s S 0 17 (pb t (V 6))) WN := hw.exw exW.at
  have u6 : pbV t V 6 = pb t (V 6) := pbV_pl
  have u12 : pbV t V 12 = V 12 ∧ pbV t V 13 = V 13 ∧ pbV t V 5 = V 5 := by simp [pbV, rset]
  have src : ∀ b e : Int, 0 ≤ b → e ≤ (t.length : Int) → ∀ j : Int, b ≤ j → j < e → tg t j = 10 ∨ (32 ≤ tg t j ∧ tg t j ≤ 126) := fun b e b0 e1 j j0 j1 => (hs.2.2 j (by omega) (by omega)).2
  have st : A_piece N S = if (p_dig (hr t (pb t (V 6)))) = true then (A_piece_l18 N N 0 (m_s S 0 17 (pb t (V 6)))) else (if hr t (pb t (V 6)) = 123 then (bnd (A_braced N (m_s S 0 17 (pb t (V 6)))) fun v121 S122 => A_piece_j171 N S122) else (if hr t (pb t (V 6)) = 34 then (bnd (A_quoted N (m_s S 0 17 (pb t (V 6)))) fun v113 S114 => A_piece_j171 N S114) else (bnd (A_word N (m_s S 0 17 (pb t (V 6)))) fun v95 S96 => if (S96 0 18) = 0 then (bnd (A_findString N v95 S96) fun v104 S105 => A_piece_j108 N v104 S105) else (A_piece_j108 N 0 S96)))) := by
    rw [A_piece_e, bnd_e hb, bnd_e hh]
  rw [st, dig_hr]
  by_cases c1 : tg t (pb t (V 6)) = 123
  · have hin : pb t (V 6) < (t.length : Int) := by
      by_cases w : pb t (V 6) < (t.length : Int)
      · exact w
      · rw [(hr_out w).2] at c1
        exact absurd c1 (by decide)
    have e : tpc t W Y p V WN = (decide (0 ≤ brk t (pb t (V 6))), bkV t p (pbV t V), WN) := (if_pos c1).trans (by rw [u6])
    have b12 := bkV_12 (t := t) (p := p) (V := pbV t V)
    obtain ⟨S2, T2, F2, a1, a2⟩ := p_braced (N := N) (V := bkV t p (pbV t V)) (v := v) (F := F) hN ht1 hs1 m_s_s ⟨by omega, hin⟩ c1 k18 (by rw [k21]; exact h21) (hf.at.cg (b12.1.trans u12.1) (b12.2.trans u12.2.1)) hF
    rw [hr_in hin, c1, if_neg (by decide), if_pos rfl, bnd_e a1, A_piece_j171_e, e]
    have hbr := brc_ii (t := t) ((t.length : Int) - pb t (V 6)).toNat (pb t (V 6)) 0
    have ebr : brk t (pb t (V 6)) = brc t ((t.length : Int) - pb t (V 6)).toNat (pb t (V 6)) 0 := rfl
    have e6 : bkV t p (pbV t V) 6 = if 0 ≤ brk t (pb t (V 6)) then brk t (pb t (V 6)) + 1 else (t.length : Int) := by
      unfold bkV
      rw [u6]
      split <;> simp [rset]
    refine ⟨S2, T2, F2, rfl, pcK.mk (u := t) (b := pb t (V 6) + 1) (e := brk t (pb t (V 6))) ?_ (fun hk => ?_) (fun hk => ?_) (src _ _ (by omega) (by omega)) hv ?_⟩
    · rw [e6]
      exact (a2.rd hw1 k18).from x1 k21
    · have hk0 : 0 ≤ brk t (pb t (V 6)) := of_decide_eq_true hk
      have eb : bkV t p (pbV t V) = rset (spV (pbV t V) p (pb t (V 6) + 1) (brk t (pb t (V 6)))) 6 (brk t (pb t (V 6)) + 1) := by
        unfold bkV
        rw [u6, if_pos hk0]
      rw [eb]
      exact ⟨ptx_t (by simp [spV, rset]), by simp [spV, rset], by simp [spV, rset]⟩
    · have := a2.fd hk
      exact ⟨this.1, by omega⟩
    · rw [e6]
      split <;> omega
  · by_cases c2 : tg t (pb t (V 6)) = 34
    · have hin : pb t (V 6) < (t.length : Int) := by
        by_cases w : pb t (V 6) < (t.length : Int)
        · exact w
        · rw [(hr_out w).2] at c2
          exact absurd c2 (by decide)
      have e : tpc t W Y p V WN = (decide ((qtk t (pb t (V 6))).1 = 1), qkV t p (pbV t V), WN) := (if_neg c1).trans ((if_pos c2).trans (by rw [u6]))
      have b12 := qkV_12 (t := t) (p := p) (V := pbV t V)
      obtain ⟨S2, T2, F2, a1, a2⟩ := p_quoted (N := N) (V := qkV t p (pbV t V)) (v := v) (F := F) hN ht1 hs1 m_s_s ⟨by omega, hin⟩ k18 (by rw [k21]; exact h21) (hf.at.cg (b12.1.trans u12.1) (b12.2.trans u12.2.1)) hF
      rw [hr_in hin, c2, if_neg (by decide), if_neg (by decide), if_pos rfl, bnd_e a1, A_piece_j171_e, e]
      have hqt := qtc_rng (t := t) ((t.length : Int) - (pb t (V 6) + 1)).toNat (pb t (V 6) + 1) 0
      have eqt : qtk t (pb t (V 6)) = qtc t ((t.length : Int) - (pb t (V 6) + 1)).toNat (pb t (V 6) + 1) 0 := rfl
      have e6 : qkV t p (pbV t V) 6 = if (qtk t (pb t (V 6))).1 = 1 then (qtk t (pb t (V 6))).2 + 1 else (qtk t (pb t (V 6))).2 := by
        unfold qkV
        rw [u6]
        split <;> simp [rset]
      refine ⟨S2, T2, F2, rfl, pcK.mk (u := t) (b := pb t (V 6) + 1) (e := if (qtk t (pb t (V 6))).1 = 1 then (qtk t (pb t (V 6))).2 else pb t (V 6)) ?_ (fun hk => ?_) (fun hk => ?_) (src _ _ (by omega) (by
        rw [← eqt] at hqt
        split <;> omega)) hv ?_⟩
      · rw [e6]
        exact (a2.rd hw1 k18).from x1 k21
      · have hk0 : (qtk t (pb t (V 6))).1 = 1 := of_decide_eq_true hk
        have eb : qkV t p (pbV t V) = rset (spV (pbV t V) p (pb t (V 6) + 1) (qtk t (pb t (V 6))).2) 6 ((qtk t (pb t (V 6))).2 + 1) := by
          unfold qkV
          rw [u6, if_pos hk0]
        rw [eb, if_pos hk0]
        exact ⟨ptx_t (by simp [spV, rset]), by simp [spV, rset], by simp [spV, rset]⟩
      · have hk0 : (qtk t (pb t (V 6))).1 = 1 := of_decide_eq_true hk
        have := a2.fd hk
        rw [if_pos hk0]
        exact ⟨this.1, by omega⟩
      · rw [← eqt] at hqt
        rw [e6]
        split <;> omega
    · by_cases c3 : p_dig (tg t (pb t (V 6))) = true
      · have e : tpc t W Y p V WN = (true, dgV t p (pbV t V), WN) := (if_neg c1).trans ((if_neg c2).trans (if_pos c3))
        have b12 : dgV t p (pbV t V) 12 = V 12 ∧ dgV t p (pbV t V) 13 = V 13 := by simp [dgV, spV, pbV, rset]
        have e6 : dgV t p (pbV t V) 6 = dgr t 9 (pb t (V 6)) := by
          have : dgV t p (pbV t V) 6 = dgt t (pbV t V 6) := by simp [dgV, spV, rset]
          rw [this, u6]
          rfl
        have e9 : dgV t p (pbV t V) 9 = pb t (V 6) := by
          have : dgV t p (pbV t V) 9 = pbV t V 6 := by simp [dgV, spV, rset]
          rw [this, u6]
        have e10 : dgV t p (pbV t V) 10 = dgr t 9 (pb t (V 6)) := by
          have : dgV t p (pbV t V) 10 = dgt t (pbV t V 6) := by simp [dgV, spV, rset]
          rw [this, u6]
          rfl
        have e8 : dgV t p (pbV t V) 8 = p + 1 := by simp [dgV, spV, rset]
        obtain ⟨S2, T2, F2, a1, a2⟩ := p_dgl (N := N) (t := t) 9 N 0 (pb t (V 6)) (m_s S 0 17 (pb t (V 6))) T v (dgV t p (pbV t V)) F ht1 hs1 m_s_s (by omega) (by omega) (by decide) (hf.at.cg b12.1 b12.2) (by omega) (by omega)
        have hdr := dgr_rng (t := t) 9 (pb t (V 6)) (by omega) hq.2
        rw [if_pos c3, a1, e]
        refine ⟨S2, T2, F2, rfl, pcK.mk (u := t) (b := pb t (V 6)) (e := dgr t 9 (pb t (V 6))) ?_ (fun hk => ⟨ptx_t e8, e9, e10⟩) (fun hk => ?_) (src _ _ (by omega) (by omega)) hv (by rw [e6]; omega)⟩
        · rw [e6]
          exact (a2.rd hw1 k18).from x1 k21
        · have := a2.fd hk
          exact ⟨this.1, by omega⟩
      · have n1 : ¬ hr t (pb t (V 6)) = 123 := fun z => c1 ((hr_eq (by decide)).mp z)
        have n2 : ¬ hr t (pb t (V 6)) = 34 := fun z => c2 ((hr_eq (by decide)).mp z)
        obtain ⟨a1, a2⟩ := p_wordR (N := N) hN hs1 m_s_s (by omega) k18 (by rw [k21]; omega)
        rw [if_neg c3, if_neg n1, if_neg n2, bnd_e a1]
        obtain ⟨n', en⟩ : ∃ n', N = n' + 1 := ⟨N - 1, by omega⟩
        by_cases c4 : (tkw t (pb t (V 6))).1 = 0
        · have e : tpc t W Y p V WN = (false, wdV t (pbV t V), WN) := (if_neg c1).trans ((if_neg c2).trans ((if_neg c3).trans (if_pos (by rw [u6]; exact c4))))
          have e6 : wdV t (pbV t V) 6 = (tkw t (pb t (V 6))).2 := by
            have : wdV t (pbV t V) 6 = (tkw t (pbV t V 6)).2 := by simp [wdV, rset]
            rw [this, u6]
          rw [if_pos c4, if_neg (by rw [oth_18]; decide), e, m_s_twice]
          refine ⟨oth (m_s S 0 17 (tkw t (pb t (V 6))).2), T, F, ?_, pcK.mk (u := t) (b := 0) (e := 0) ?_ (fun hk => Bool.noConfusion hk) (fun hk => Bool.noConfusion hk) (src _ _ (by omega) (by omega)) hv (by rw [e6]; omega)⟩
          · rw [A_piece_j108_e, if_neg (by decide), A_piece_j120_e]
            rw [show A_piece_l123 N N = A_piece_l123 N (n' + 1) from by rw [← en], A_piece_l123_e, if_neg (by rw [oth_18]; decide), A_piece_j171_e]
          · rw [e6]
            exact rdR.no (ht.ex (fun q j z => m_sk (by omega))) (fun _ _ => rfl) exW.at.exRd (hw.exw exW.at) m_s_s (m_sj (by decide))
        · have hfs := p_findString (N := N) (by omega) (S := m_s (m_s S 0 17 (pb t (V 6))) 0 17 (tkw t (pb t (V 6))).2) (w := (tkw t (pb t (V 6))).1) ((m_sj (by decide)).trans ((m_sj (by decide)).trans hst.1)) hst.2.1 (fun e0 z0 z1 => (m_sk (by decide)).trans ((m_sk (by decide)).trans (hst.2.2.1 e0 z0 z1).1)) hst.2.2.2.1
          rw [m_s_twice] at hfs
          have w5 : wdV t (pbV t V) 5 = V 5 := by simp [wdV, pbV, rset]
          have w12 : wdV t (pbV t V) 12 = V 12 ∧ wdV t (pbV t V) 13 = V 13 := by simp [wdV, pbV, rset]
          have w6 : wdV t (pbV t V) 6 = (tkw t (pb t (V 6))).2 := by
            have : wdV t (pbV t V) 6 = (tkw t (pbV t V 6)).2 := by simp [wdV, rset]
            rw [this, u6]
          have e : tpc t W Y p V WN = (true, tmV W Y p (tkw t (pb t (V 6))).1 (wdV t (pbV t V)), tmW W (tkw t (pb t (V 6))).1 (wdV t (pbV t V)) WN) := (if_neg c1).trans ((if_neg c2).trans ((if_neg c3).trans ((if_neg (by rw [u6]; exact c4)).trans (by rw [u6]))))
          have g18 : m_s S 0 17 (tkw t (pb t (V 6))).2 0 18 = 0 := (m_sj (by decide)).trans h18
          rw [if_neg c4, m_s_twice, if_pos g18, bnd_e hfs, A_piece_j108_e, e]
          have hS2 : TX (m_s S 0 17 (tkw t (pb t (V 6))).2) T := ht.ex (fun q j z => m_sk (by omega))
          have hW2 : WX (m_s S 0 17 (tkw t (pb t (V 6))).2) WN := hw.exw exW.at
          by_cases c5 : fx W (V 5) (tkw t (pb t (V 6))).1 < 0
          · have tV : tmV W Y p (tkw t (pb t (V 6))).1 (wdV t (pbV t V)) = spV (wdV t (pbV t V)) p 0 0 := by
              unfold tmV
              rw [w5, if_pos c5]
            have tW : tmW W (tkw t (pb t (V 6))).1 (wdV t (pbV t V)) WN = inc WN 2 := by
              unfold tmW
              rw [w5, if_pos c5]
            rw [if_pos c5, bnd_e (p_warn (by decide)), A_piece_j120_e, tV, tW]
            have s12 : spV (wdV t (pbV t V)) p 0 0 12 = V 12 ∧ spV (wdV t (pbV t V)) p 0 0 13 = V 13 := by
              rw [← w12.1, ← w12.2]
              simp [spV, rset]
            have s6 : spV (wdV t (pbV t V)) p 0 0 6 = (tkw t (pb t (V 6))).2 := by
              rw [← w6]
              simp [spV, rset]
            refine ⟨m_s (m_s S 0 17 (tkw t (pb t (V 6))).2) 1 2 (wi32 (m_s S 0 17 (tkw t (pb t (V 6))).2 1 2 + 1)), T, F, ?_, pcK.mk (u := t) (b := 0) (e := 0) ?_ (fun hk => ⟨ptx_t (by simp [spV, rset]), by simp [spV, rset], by simp [spV, rset]⟩) (fun hk => ?_) (src _ _ (by omega) (by omega)) hv (by rw [s6]; omega)⟩
            · rw [show A_piece_l123 N N = A_piece_l123 N (n' + 1) from by rw [← en], A_piece_l123_e, if_pos ((m_sk (by decide)).trans g18), if_pos c5, A_piece_j171_e]
            · rw [s6]
              refine rdR.ok (hS2.ex (fun q j z => m_sk (by omega))) (fun _ _ => rfl) ?_ (hW2.bump (by decide)) ((m_sk (by decide)).trans m_s_s) ((m_sk (by decide)).trans g18) ((m_sk (by decide)).trans (m_sj (by decide)))
              exact exW.at.exRd.trans (fun q j a b c d => m_sk a)
            · rw [apc_nil]
              refine ⟨?_, by omega⟩
              obtain ⟨f1, f2, f3, f4⟩ := hf
              refine fdk.cg (a := V 12) (b := V 13) ?_ s12.1 s12.2
              exact ⟨f1, (m_sk (by decide)).trans ((m_sj (by decide)).trans f2), (m_sk (by decide)).trans ((m_sj (by decide)).trans f3), f4⟩
          · have hr5 := fx_rng (W := W) (n := V 5) (w := (tkw t (pb t (V 6))).1) hst.2.1.1
            have hst2 := hst.2.1
            obtain ⟨y1, y2, y3, y4⟩ := hst.2.2.1 (fx W (V 5) (tkw t (pb t (V 6))).1) (by omega) (by omega)
            have tV : tmV W Y p (tkw t (pb t (V 6))).1 (wdV t (pbV t V)) = rset (rset (spV (wdV t (pbV t V)) p 0 0) 8 (p + 4 + 1 + 2 * fx W (V 5) (tkw t (pb t (V 6))).1)) 10 ((Y (fx W (V 5) (tkw t (pb t (V 6))).1)).length : Int) := by
              unfold tmV
              rw [w5, if_neg c5]
            have tW : tmW W (tkw t (pb t (V 6))).1 (wdV t (pbV t V)) WN = WN := by
              unfold tmW
              rw [w5, if_neg c5]
            rw [if_neg c5, A_piece_j120_e, tV, tW]
            obtain ⟨Vx, eVx⟩ : ∃ Vx, Vx = rset (rset (spV (wdV t (pbV t V)) p 0 0) 8 (p + 4 + 1 + 2 * fx W (V 5) (tkw t (pb t (V 6))).1)) 10 ((Y (fx W (V 5) (tkw t (pb t (V 6))).1)).length : Int) := ⟨_, rfl⟩
            have s12 : Vx 12 = V 12 ∧ Vx 13 = V 13 := by
              rw [eVx, ← w12.1, ← w12.2]
              simp [spV, rset]
            have s6 : Vx 6 = (tkw t (pb t (V 6))).2 := by
              rw [eVx, ← w6]
              simp [spV, rset]
            have s8 : Vx 8 = p + 4 + 1 + 2 * fx W (V 5) (tkw t (pb t (V 6))).1 := by
              rw [eVx]
              simp [rset]
            have s9 : Vx 9 = 0 := by
              rw [eVx]
              simp [spV, rset]
            have s10 : Vx 10 = ((Y (fx W (V 5) (tkw t (pb t (V 6))).1)).length : Int) := by
              rw [eVx]
              simp [rset]
            rw [← eVx]
            obtain ⟨S2, T2, F2, b1, b2⟩ := p_sfl (N := N) (u := Y (fx W (V 5) (tkw t (pb t (V 6))).1)) (k := fx W (V 5) (tkw t (pb t (V 6))).1) (pl := (tkw t (pb t (V 6))).2) (by omega) y4 (Y (fx W (V 5) (tkw t (pb t (V 6))).1)).length N 0 (m_s S 0 17 (tkw t (pb t (V 6))).2) T v Vx F hS2 y2 m_s_s g18 (by omega) (by omega) (hf.at.cg s12.1 s12.2) (by omega) (by omega)
            rw [b1]
            refine ⟨S2, T2, F2, rfl, pcK.mk (u := Y (fx W (V 5) (tkw t (pb t (V 6))).1)) (b := 0) (e := ((Y (fx W (V 5) (tkw t (pb t (V 6))).1)).length : Int)) ?_ (fun hk => ⟨?_, s9, s10⟩) (fun hk => ?_) (fun j j0 j1 => Or.inr (y3 j j0 j1)) hv (by rw [s6]; omega)⟩
            · rw [s6]
              exact (b2.rd hW2 g18).from exW.at.exRd (m_sj (by decide))
            · unfold ptx
              rw [s8, if_neg (by omega), show (p + 4 + 1 + 2 * fx W (V 5) (tkw t (pb t (V 6))).1 - p - 5) / 2 = fx W (V 5) (tkw t (pb t (V 6))).1 by omega]
            · have := b2.fd hk
              exact ⟨this.1, by omega⟩
