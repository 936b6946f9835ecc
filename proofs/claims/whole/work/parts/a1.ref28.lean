theorem p_fsl {N : Nat} {S : s_M} {W : Int → Int} {w nr : Int} (h11 : S 0 11 = nr) (h8 : 0 ≤ nr ∧ nr ≤ 8) (hW : ∀ e, 0 ≤ e → e < nr → S 9 e = W e) : ∀ (m n : Nat) (f g : Int), 0 ≤ f → f + m = nr → m < n → A_findString_l5 N n w g f S = some (lxk W w m f g, S)
  | m, 0, f, g, h0, h1, h2 => absurd h2 (Nat.not_lt_zero _)
  | 0, n + 1, f, g, h0, h1, h2 => by
    rw [A_findString_l5_e, if_neg (by omega)]
    rfl
  | m + 1, n + 1, f, g, h0, h1, h2 => by
    rw [A_findString_l5_e, if_pos (by omega), chk_e (by omega), chk_e (by omega), hW f h0 (by omega)]
    exact p_fsl h11 h8 hW m n (f + 1) _ (by omega) (by omega) (by omega)
theorem p_findString {N : Nat} (hN : 100 ≤ N) {S : s_M} {W : Int → Int} {w nr : Int} (h11 : S 0 11 = nr) (h8 : 0 ≤ nr ∧ nr ≤ 8) (hW : ∀ e, 0 ≤ e → e < nr → S 9 e = W e) (hd : dst_ W nr) : A_findString N w S = some (fx W nr w, S) := by
  rw [A_findString_e, p_fsl (W := W) h11 h8 hW nr.toNat N 0 (-1) (by omega) (by omega) (by omega), lxk_fi hd _ 0 (-1) (by omega) (by omega)]
  unfold fx
  rw [show (nr - 0).toNat = nr.toNat by omega]
  rcases fi_rng (W := W) (w := w) nr.toNat 0 with r | r
  · rw [if_pos (by omega), r]
  · rw [if_neg (by omega)]
theorem brc_ii {t : List Int} : ∀ (m : Nat) (i v : Int), brc t m i v = -1 ∨ (i ≤ brc t m i v ∧ brc t m i v < i + m)
  | 0, i, v => Or.inl rfl
  | m + 1, i, v => by
    have e : brc t (m + 1) i v = if p_lev v (tg t i) = 0 then i else brc t m (i + 1) (p_lev v (tg t i)) := rfl
    rw [e]
    split
    · exact Or.inr (by omega)
    · rcases brc_ii (t := t) m (i + 1) (p_lev v (tg t i)) with q | q
      · exact Or.inl q
      · exact Or.inr (by omega)
/-- what reading a value changes -/
def exW (S S' : s_M) : Prop := ∀ q j : Int, q ≠ 3 → q ≠ 4 → ¬ (q = 0 ∧ (j = 17 ∨ j = 19 ∨ j = 20)) → S' q j = S q j
theorem exW.refl (S : s_M) : exW S S := fun _ _ _ _ _ => rfl
theorem exW.trans {A B C : s_M} (h1 : exW A B) (h2 : exW B C) : exW A C := fun q j a b c => (h2 q j a b c).trans (h1 q j a b c)
theorem exV.exW {S S' : s_M} (h : exV S S') : exW S S' := fun q j a b c => h q j a b (by omega)
theorem exW.at {S : s_M} {x : Int} : exW S (m_s S 0 17 x) := fun q j _ _ z => m_s_n (by omega)
theorem srx.exw {S S' : s_M} {t : List Int} (h : srx S t) (e : exW S S') : srx S' t := h.ex (fun q j z => e q j (by omega) (by omega) (by omega))
theorem fdk.at {S : s_M} {T : Int → List Int} {v : List Int} {a b F x : Int} (h : fdk S T v a b F) : fdk (m_s S 0 17 x) T v a b F := by
  obtain ⟨h1, h2, h3, h4⟩ := h
  exact ⟨h1, (m_sj (by decide)).trans h2, (m_sj (by decide)).trans h3, h4⟩
/-- a piece was read: to e, its characters fed; or the text ended -/
def pcR (S S' : s_M) (T T' : Int → List Int) (ok : Bool) (pl : Int) (s : vst) (F F' : Int) : Prop := TX S' T' ∧ (∀ q : Int, q ≠ 82 → T' q = T q) ∧ (if ok = true then exW S S' ∧ S' 0 17 = pl ∧ fdk S' T' s.1 (s.2 12) (s.2 13) F' ∧ F' ≤ F else ∃ S1, exW S S1 ∧ S1 0 17 = pl ∧ S' = oth S1)
theorem lev_pos {o c : Int} (h : 1 ≤ o) : o + (if c = 123 then (1 : Int) else (if c = 125 then ((-1) : Int) else 0)) = p_lev o c := by
  unfold p_lev
  by_cases q : c = 123
  · rw [if_pos q, if_pos q]
  · rw [if_neg q, if_neg q]
    by_cases q2 : c = 125
    · rw [if_pos q2, if_pos ⟨q2, by omega⟩]
      omega
    · rw [if_neg q2, if_neg (fun z => q2 z.1), Int.add_zero]
theorem apc_step {u : List Int} {b e : Int} {s : vst} (h : b < e) : apc u b e s = apc u (b + 1) e (aps u b s) := by
  unfold apc
  rw [it_step (aps u) h]
theorem apc_nil {u : List Int} {b : Int} {s : vst} : apc u b b s = s := by
  unfold apc
  rw [show (b - b).toNat = 0 by omega]
  rfl
theorem p_brl {N : Nat} {t : List Int} : ∀ (m n : Nat) (j o : Int) (S : s_M) (T : Int → List Int) (v : List Int) (V : Int → Int) (F : Int), TX S T → srx S t → S 0 17 = j → 0 ≤ j → j + m = (t.length : Int) → 1 ≤ o ∧ o ≤ j + 1 → S 0 18 = 0 → 0 ≤ S 0 21 ∧ S 0 21 < 1000 → fdk S T v (V 12) (V 13) F → F + 2 * m ≤ 1000000 → m + 1 < n → ∃ S' T' F', A_braced_l12 N n o S = some (0, S') ∧ pcR S S' T T' (decide (0 ≤ brc t m j o)) (if 0 ≤ brc t m j o then brc t m j o + 1 else (t.length : Int)) (apc t j (brc t m j o) (v, V)) (F + 2 * m) F'
  | m, 0, j, o, S, T, v, V, F, ht, hs, h17, h0, h1, ho, h18, h21, hf, hF, hn => absurd hn (Nat.not_lt_zero _)
  | 0, n + 1, j, o, S, T, v, V, F, ht, hs, h17, h0, h1, ho, h18, h21, hf, hF, hn => by
    have hh := p_here (N := N) hs h17 h0
    have hout := hr_out (t := t) (i := j) (by omega)
    have h320 := hs.2.1
    rw [hout.1] at hh
    have hoth := p_other (N := N) h18 (by omega)
    have k17 : oth S 0 17 = j := by
      unfold oth
      rw [m_sj (by decide), m_sj (by decide), m_sk (by decide)]
      exact h17
    have e : brc t 0 j o = -1 := rfl
    refine ⟨oth S, T, F, ?_, ?_⟩
    · obtain ⟨n', en⟩ : ∃ n', n = n' + 1 := ⟨n - 1, by omega⟩
      rw [A_braced_l12_e, if_pos (by omega), if_pos h18, bnd_e hh, chk_e (by show rI (o + 0); omega), if_pos (by decide), bnd_e hoth, A_braced_j72_e, k17, chk_e (by show rI (j + 0); omega)]
      show A_braced_l12 N n (o + 0) (m_s (oth S) 0 17 (j + 0)) = _
      rw [Int.add_zero, Int.add_zero, m_s_self k17, en, A_braced_l12_e, if_pos (by omega), if_neg (by rw [show oth S 0 18 = 1 from m_s_s]; decide), A_braced_j93_e]
    · rw [e]
      refine ⟨ht.ex (fun q j z => ?_), fun _ _ => rfl, ?_⟩
      · unfold oth
        rw [m_sk (by omega), m_sk (by omega), m_sk (by omega)]
      · rw [if_neg (by decide), if_neg (by decide)]
        exact ⟨S, exW.refl S, by omega, rfl⟩
  | m + 1, n + 1, j, o, S, T, v, V, F, ht, hs, h17, h0, h1, ho, h18, h21, hf, hF, hn => by
    have hh := p_here (N := N) hs h17 h0
    have h320 := hs.2.1
    rw [hr_in (by omega)] at hh
    have hch := (hs.2.2 j h0 (by omega)).2
    have hl := lev_pos (c := tg t j) ho.1
    have hlr := p_lev_r (v := o) (c := tg t j) (by omega)
    have e : brc t (m + 1) j o = if p_lev o (tg t j) = 0 then j else brc t m (j + 1) (p_lev o (tg t j)) := rfl
    have st : A_braced_l12 N (n + 1) o S = if 0 < p_lev o (tg t j) then (bnd (A_feed N (tg t j) S) fun v30 S31 => A_braced_j72 N (A_braced_l12 N n) (p_lev o (tg t j)) (tg t j) S31) else (A_braced_j72 N (A_braced_l12 N n) (p_lev o (tg t j)) (tg t j) S) := by
      rw [A_braced_l12_e, if_pos (by omega), if_pos h18, bnd_e hh, hl, chk_e (by omega), if_neg (by omega)]
    have j72 : ∀ S1 : s_M, S1 0 17 = j → A_braced_j72 N (A_braced_l12 N n) (p_lev o (tg t j)) (tg t j) S1 = A_braced_l12 N n (p_lev o (tg t j)) (m_s S1 0 17 (j + 1)) := fun S1 k => by
      rw [A_braced_j72_e, k, if_neg (by omega), chk_e (by omega)]
    rw [st, e]
    by_cases c : p_lev o (tg t j) = 0
    · rw [if_pos c, if_neg (by omega), j72 S h17]
      refine ⟨m_s S 0 17 (j + 1), T, F, ?_, ht.ex (fun q j z => m_sk (by omega)), fun _ _ => rfl, ?_⟩
      · obtain ⟨n', en⟩ : ∃ n', n = n' + 1 := ⟨n - 1, by omega⟩
        rw [en, A_braced_l12_e, if_neg (by omega), A_braced_j93_e]
      · rw [decide_eq_true h0, if_pos rfl, if_pos h0, apc_nil]
        exact ⟨exW.at, m_s_s, hf.at, by omega⟩
    · rw [if_neg c, if_pos (by omega)]
      obtain ⟨S1, T1, F1, a1, a2, a3, a4, a5, a6, a7⟩ := p_feed (N := N) (c := tg t j) ht hf (by omega)
      have k17 : S1 0 17 = j := (a7 0 17 (by decide) (by decide) (by omega)).trans h17
      have k18 : S1 0 18 = 0 := (a7 0 18 (by decide) (by decide) (by omega)).trans h18
      have k21 : S1 0 21 = S 0 21 := a7 0 21 (by decide) (by decide) (by omega)
      rw [bnd_e a1, j72 S1 k17]
      obtain ⟨S2, T2, F2, b1, b2, b3, b4⟩ := p_brl (N := N) (t := t) m n (j + 1) (p_lev o (tg t j)) (m_s S1 0 17 (j + 1)) T1 (avv (tg t j) v (V 12)) (avV (tg t j) v V) F1 (a2.ex (fun q j z => m_sk (by omega))) ((hs.exw a7.exW).at) m_s_s (by omega) (by omega) (by omega) (by rw [m_sj (by decide)]; exact k18) (by rw [m_sj (by decide), k21]; exact h21) a4.at (by omega) (by omega)
      have xx : exW S (m_s S1 0 17 (j + 1)) := a7.exW.trans exW.at
      refine ⟨S2, T2, F2, b1, b2, fun q z => (b3 q z).trans (a3 q z), ?_⟩
      by_cases w : 0 ≤ brc t m (j + 1) (p_lev o (tg t j))
      · rw [decide_eq_true w, if_pos rfl, if_pos w] at b4 ⊢
        have hii := brc_ii (t := t) m (j + 1) (p_lev o (tg t j))
        rw [apc_step (show j < brc t m (j + 1) (p_lev o (tg t j)) by omega)]
        obtain ⟨d1, d2, d3, d4⟩ := b4
        exact ⟨xx.trans d1, d2, d3, by omega⟩
      · rw [decide_eq_false w, if_neg (by decide), if_neg w] at b4 ⊢
        obtain ⟨S3, d1, d2, d3⟩ := b4
        exact ⟨S3, xx.trans d1, d2, d3⟩
