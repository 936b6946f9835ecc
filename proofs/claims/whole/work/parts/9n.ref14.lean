theorem TX.exb {S S' : s_M} {T : Int → List Int} (h : TX S T) (e : exB S S') : TX S' T := h.ex (fun q j z => e q j (by omega) (by omega))
theorem cut_pt {v c : Int} (hv : 0 ≤ v) (hc : 32 ≤ c) : (if v = 0 then (if c = 32 then (1 : Int) else (if c = 126 then (1 : Int) else (if c = 44 then (1 : Int) else 0)) : Int) else 0) = if 0 < v ∨ isdiv c = false then 0 else 1 := by
  have hd : isdiv c = decide (c = 32 ∨ c = 126 ∨ c = 44) := by
    unfold isdiv p_bl
    by_cases q1 : c = 32
    · rw [decide_eq_true (Or.inl q1), decide_eq_true (Or.inl q1)]
      rfl
    · rw [decide_eq_false (show ¬ (c = 32 ∨ c = 10) by omega), Bool.false_or]
      by_cases q2 : c = 126
      · rw [decide_eq_true q2, decide_eq_true (Or.inr (Or.inl q2))]
        rfl
      · rw [decide_eq_false q2, Bool.false_or]
        exact decide_eq_decide.mpr ⟨fun z => Or.inr (Or.inr z), fun z => by omega⟩
  have hdf : isdiv c = false ↔ ¬ (c = 32 ∨ c = 126 ∨ c = 44) := by rw [hd]; exact decide_eq_false_iff_not
  have yes : (c = 32 ∨ c = 126 ∨ c = 44) → v = 0 → ¬ (0 < v ∨ isdiv c = false) := fun a b z => z.elim (fun q => by omega) (fun q => hdf.mp q a)
  by_cases c0 : v = 0
  · rw [if_pos c0]
    by_cases q1 : c = 32
    · rw [if_pos q1, if_neg (yes (by omega) c0)]
    · rw [if_neg q1]
      by_cases q2 : c = 126
      · rw [if_pos q2, if_neg (yes (by omega) c0)]
      · rw [if_neg q2]
        by_cases q3 : c = 44
        · rw [if_pos q3, if_neg (yes (by omega) c0)]
        · rw [if_neg q3, if_pos (Or.inr (hdf.mpr (by omega)))]
  · rw [if_neg c0, if_pos (Or.inl (by omega))]
theorem isdiv_o {c : Int} (h : ¬ isdiv c = false) : c ≠ 123 ∧ c ≠ 125 := by
  constructor
  · intro z
    rw [z] at h
    exact h rfl
  · intro z
    rw [z] at h
    exact h rfl
theorem p_cutl {N : Nat} {T : Int → List Int} (hp : prt (T 82)) {bg e : Int} (hb : 0 ≤ bg) (hl60 : (T 82).length ≤ 60) (he : e ≤ ((T 82).length : Int)) : ∀ (m n : Nat) (k : Int) (S : s_M) (s : dst), TX S T → ctk S bg k s → 0 ≤ s.2.1 ∧ s.2.1 ≤ k - bg → bg ≤ k → k + m = e → m < n → ∃ S', A_cut_l18 N n e s.2.1 (s_b (decide (0 ≤ s.1))) k S = some (0, S') ∧ ctk S' bg e (it (dvs (T 82)) m k s) ∧ exB S S'
  | m, 0, k, S, s, ht, h, hv, h0, h1, h4 => absurd h4 (Nat.not_lt_zero _)
  | 0, n + 1, k, S, s, ht, h, hv, h0, h1, h4 => by
    refine ⟨S, by rw [A_cut_l18_e, if_neg (by omega)], ?_, exB.refl S⟩
    rw [show e = k by omega]
    exact h
  | m + 1, n + 1, k, S, (st, v, V, B, Nn, Pb), ht, h, hv, h0, h1, h4 => by
    have hv : 0 ≤ v ∧ v ≤ k - bg := hv
    have ha := p_att (N := N) ht (t := 82) (k := k) (by decide) (by omega)
    have hch := hp k (by omega) (by omega)
    have hlv := p_lev_rng (c := tg (T 82) k) hv
    have a1 : 0 ≤ V 5 ∧ 2 * V 5 + (if st < 0 then 0 else 1) ≤ k - bg := h.1
    have a2 : S 0 37 = V 5 + (if st < 0 then 0 else 1) := h.2.1
    have a3 : S 0 38 = V 7 := h.2.2.1
    have a6 : pbk (V 7) (V 5) Pb := h.2.2.2.2.2
    have a7 := a6.1
    have hpt := cut_pt (v := v) (c := tg (T 82) k) hv.1 hch.1
    by_cases hd : 0 < v ∨ isdiv (tg (T 82) k) = false
    · have hc := h.non (t := T 82) hb (by omega) hd
      rw [if_pos hd] at hpt
      have hdv : dvs (T 82) k (st, v, V, B, Nn, Pb) = (if st < 0 then k else st, p_lev v (tg (T 82) k), V, B, Nn, Pb) := if_pos hd
      have hst : decide (0 ≤ (if st < 0 then k else st)) = true := decide_eq_true (by split <;> omega)
      by_cases c0 : st < 0
      · rw [if_pos c0] at a1 a2 hc
        have hx : exB S (m_s (m_s (m_s (m_s S 22 (V 5) k) 24 (V 5) (V 7 - 1)) 0 37 (V 5 + 1)) 23 (V 5) (k + 1)) := (((exB.put (by omega)).trans (exB.put (by omega))).trans (exB.put (by omega))).trans (exB.put (by omega))
        obtain ⟨S2, b1, b2, b3⟩ := p_cutl hp hb hl60 he m n (k + 1) _ _ (ht.exb hx) hc (by rw [hdv]; show 0 ≤ p_lev v (tg (T 82) k) ∧ p_lev v (tg (T 82) k) ≤ k + 1 - bg; omega) (by omega) (by omega) (by omega)
        refine ⟨S2, ?_, b2, hx.trans b3⟩
        rw [hdv] at b1
        show A_cut_l18 N (n + 1) e v (s_b (decide (0 ≤ st))) k S = _
        rw [← b1]
        show _ = A_cut_l18 N n e (p_lev v (tg (T 82) k)) (s_b (decide (0 ≤ (if st < 0 then k else st)))) (k + 1) _
        rw [hst, A_cut_l18_e, if_pos (by omega), bnd_e ha, lev_eq, chk_e (by omega), hpt, if_pos rfl, decide_eq_false (show ¬ 0 ≤ st by omega), if_pos (by decide), a2, a3, Int.add_zero, chk_e (by omega), chk_e (by omega), chk_e (by omega), chk_e (by omega), A_cut_j142_e, if_neg (by decide), m_s_s, show V 5 + 1 - 1 = V 5 by omega, chk_e (by omega), chk_e (by omega), chk_e (by omega), A_cut_j174_e, if_pos rfl, A_cut_j204_e, chk_e (by omega)]
        rfl
      · rw [if_neg c0] at a1 a2 hc
        have hx : exB S (m_s S 23 (V 5) (k + 1)) := exB.put (by omega)
        obtain ⟨S2, b1, b2, b3⟩ := p_cutl hp hb hl60 he m n (k + 1) _ _ (ht.exb hx) hc (by rw [hdv]; show 0 ≤ p_lev v (tg (T 82) k) ∧ p_lev v (tg (T 82) k) ≤ k + 1 - bg; omega) (by omega) (by omega) (by omega)
        refine ⟨S2, ?_, b2, hx.trans b3⟩
        rw [hdv] at b1
        show A_cut_l18 N (n + 1) e v (s_b (decide (0 ≤ st))) k S = _
        rw [← b1]
        show _ = A_cut_l18 N n e (p_lev v (tg (T 82) k)) (s_b (decide (0 ≤ (if st < 0 then k else st)))) (k + 1) _
        rw [hst, A_cut_l18_e, if_pos (by omega), bnd_e ha, lev_eq, chk_e (by omega), hpt, if_pos rfl, decide_eq_true (show 0 ≤ st by omega), if_neg (by decide), A_cut_j142_e, if_neg (by decide), a2, show V 5 + 1 - 1 = V 5 by omega, chk_e (by omega), chk_e (by omega), chk_e (by omega), A_cut_j174_e, if_pos rfl, A_cut_j204_e, chk_e (by omega)]
        rfl
    · have hc := h.div (t := T 82) hb (by omega) hd
      rw [if_neg hd] at hpt
      have hdv : dvs (T 82) k (st, v, V, B, Nn, Pb) = (-1, v, dvp (tg (T 82) k) (adV st V) (adB st V B) (adN st k V Nn) Pb) := if_neg hd
      have hpl : p_lev v (tg (T 82) k) = v := p_lev_o (isdiv_o (fun z => hd (Or.inr z)))
      have hx : exB S (if tg (T 82) k = 44 ∧ V 7 < 3 then m_s S 0 38 (V 7 + 1) else S) := by
        split
        · exact exB.put (by omega)
        · exact exB.refl S
      obtain ⟨S2, b1, b2, b3⟩ := p_cutl hp hb hl60 he m n (k + 1) _ _ (ht.exb hx) hc (by rw [hdv]; show 0 ≤ v ∧ v ≤ k + 1 - bg; omega) (by omega) (by omega) (by omega)
      refine ⟨S2, ?_, b2, hx.trans b3⟩
      rw [hdv] at b1
      show A_cut_l18 N (n + 1) e v (s_b (decide (0 ≤ st))) k S = _
      rw [← b1]
      show _ = A_cut_l18 N n e v 0 (k + 1) _
      rw [A_cut_l18_e, if_pos (by omega), bnd_e ha, lev_eq, chk_e (by omega), hpt, if_neg (by decide), A_cut_j142_e, if_pos (by decide), A_cut_j174_e, if_neg (by decide), hpl, a3]
      by_cases q1 : tg (T 82) k = 44
      · rw [if_pos q1]
        by_cases q2 : V 7 < 3
        · rw [if_pos q2, chk_e (by omega), A_cut_j204_e, chk_e (by omega), if_pos (show tg (T 82) k = 44 ∧ V 7 < 3 from ⟨q1, q2⟩)]
          rfl
        · rw [if_neg q2, A_cut_j204_e, chk_e (by omega), if_neg (show ¬ (tg (T 82) k = 44 ∧ V 7 < 3) from fun z => q2 z.2)]
          rfl
      · rw [if_neg q1, A_cut_j204_e, chk_e (by omega), if_neg (show ¬ (tg (T 82) k = 44 ∧ V 7 < 3) from fun z => q1 z.1)]
        rfl
theorem it_snoc {σ : Type} {f : Int → σ → σ} : ∀ (m : Nat) (i : Int) (s : σ), it f (m + 1) i s = f (i + m) (it f m i s)
  | 0, i, s => by
    show f i s = f (i + ((0 : Nat) : Int)) s
    rw [show i + ((0 : Nat) : Int) = i by omega]
  | m + 1, i, s => by
    show it f (m + 1) (i + 1) (f i s) = _
    rw [it_snoc m (i + 1) (f i s), show i + 1 + (m : Int) = i + ((m + 1 : Nat) : Int) by omega]
    rfl
theorem dvs_lvl {t : List Int} : ∀ (m : Nat) (k : Int) (s : dst), 0 ≤ s.2.1 → (it (dvs t) m k s).2.1 = lvl t m k s.2.1
  | 0, k, s, h => rfl
  | m + 1, k, s, h => by
    have e : (dvs t k s).2.1 = p_lev s.2.1 (tg t k) := by
      by_cases c : 0 < s.2.1 ∨ isdiv (tg t k) = false
      · rw [show dvs t k s = (if s.1 < 0 then k else s.1, p_lev s.2.1 (tg t k), s.2.2) from if_pos c]
      · rw [show dvs t k s = (-1, s.2.1, dvp (tg t k) (adV s.1 s.2.2.1) (adB s.1 s.2.2.1 s.2.2.2.1) (adN s.1 k s.2.2.1 s.2.2.2.2.1) s.2.2.2.2.2) from if_neg c]
        exact (p_lev_o (isdiv_o (fun z => c (Or.inr z)))).symm
    show (it (dvs t) m (k + 1) (dvs t k s)).2.1 = lvl t m (k + 1) (p_lev s.2.1 (tg t k))
    rw [dvs_lvl m (k + 1) (dvs t k s) (by rw [e]; exact (p_lev_r h).1), e]
/-- the words of a name, cut -/
def cfn (S : s_M) (len : Int) (V B N Pb : Int → Int) : Prop := S 0 37 = V 5 ∧ (0 ≤ V 5 ∧ V 5 ≤ 31) ∧ S 0 38 = V 7 ∧ wdb S 0 len (V 5) (V 7) B N Pb ∧ pbk (V 7) (V 5) Pb
theorem wdb.mono {S : s_M} {bg k k' w np : Int} {B N Pb : Int → Int} (h : wdb S bg k w np B N Pb) (hb : 0 ≤ bg) (hk : k ≤ k') : wdb S 0 k' w np B N Pb := fun j j0 j1 => by
  obtain ⟨a, b, c, d⟩ := h j j0 j1
  exact ⟨a, b, by omega, d⟩
theorem p_cut {N : Nat} (hN : 100 ≤ N) {S : s_M} {T : Int → List Int} (ht : TX S T) (hp : prt (T 82)) {bg e : Int} (V B Nn Pb : Int → Int) (hbe : 0 ≤ bg ∧ bg ≤ e ∧ e ≤ ((T 82).length : Int)) (he : e < ((T 82).length : Int) → tg (T 82) e = 32 ∧ lvl (T 82) (e - bg).toNat bg 0 = 0) : ∃ S', A_cut N bg (min (e + 1) ((T 82).length : Int)) S = some (0, S') ∧ cfn S' ((T 82).length : Int) (dV (T 82) V B Nn Pb bg e) (dB (T 82) V B Nn Pb bg e) (dN (T 82) V B Nn Pb bg e) (dP (T 82) V B Nn Pb bg e) ∧ exB S S' := by
  have hl := ht.len (k := 82) (by decide)
  have hx0 : exB S (m_s (m_s S 0 37 0) 0 38 1) := (exB.put (by omega)).trans (exB.put (by omega))
  have v5 : dv0 V 5 = 0 := by unfold dv0; rw [rset_ne (by decide), rset_at]
  have v7 : dv0 V 7 = 1 := by unfold dv0; rw [rset_at]
  have hc0 : ctk (m_s (m_s S 0 37 0) 0 38 1) bg bg (-1, 0, dv0 V, B, Nn, Pb) := by
    refine ⟨?_, ?_, ?_, fun z => absurd z (by show ¬ (0 : Int) ≤ -1; decide), ?_, ?_⟩
    · show 0 ≤ dv0 V 5 ∧ 2 * dv0 V 5 + (if (-1 : Int) < 0 then 0 else 1) ≤ bg - bg
      rw [v5, if_pos (by decide)]
      omega
    · show _ = dv0 V 5 + (if (-1 : Int) < 0 then 0 else 1)
      rw [v5, if_pos (by decide), m_sj (by decide), m_s_s]
      rfl
    · show _ = dv0 V 7
      rw [v7, m_s_s]
    · intro j j0 j1
      have j1 : j < dv0 V 5 := j1
      omega
    · show pbk (dv0 V 7) (dv0 V 5) Pb
      rw [v7]
      exact ⟨by omega, fun z => absurd z (by decide), fun z => absurd z (by decide)⟩
  have main : ∀ e' : Int, bg ≤ e' → e' ≤ ((T 82).length : Int) → ∃ S', A_cut N bg e' S = some (0, S') ∧ ctk S' bg e' (it (dvs (T 82)) (e' - bg).toNat bg (-1, 0, dv0 V, B, Nn, Pb)) ∧ exB S S' := fun e' h1 h2 => by
    obtain ⟨S1, a1, a2, a3⟩ := p_cutl (N := N) (T := T) hp hbe.1 hl.2 h2 (e' - bg).toNat N bg _ (-1, 0, dv0 V, B, Nn, Pb) (ht.exb hx0) hc0 ⟨by show (0 : Int) ≤ 0; omega, by show (0 : Int) ≤ bg - bg; omega⟩ (by omega) (by omega) (by omega)
    refine ⟨S1, ?_, a2, hx0.trans a3⟩
    rw [A_cut_e]
    exact a1
  by_cases c : e < ((T 82).length : Int)
  · obtain ⟨S1, a1, a2, a3⟩ := main (e + 1) (by omega) (by omega)
    rw [show min (e + 1) ((T 82).length : Int) = e + 1 by omega]
    refine ⟨S1, a1, ?_, a3⟩
    rw [show (e + 1 - bg).toNat = (e - bg).toNat + 1 by omega, it_snoc, show bg + (((e - bg).toNat : Nat) : Int) = e by omega] at a2
    have hlv := dvs_lvl (t := T 82) (e - bg).toNat bg (-1, 0, dv0 V, B, Nn, Pb) (by show (0 : Int) ≤ 0; omega)
    have hlv : (it (dvs (T 82)) (e - bg).toNat bg (-1, 0, dv0 V, B, Nn, Pb)).2.1 = lvl (T 82) (e - bg).toNat bg 0 := hlv
    obtain ⟨h32, h0⟩ := he c
    rw [h0] at hlv
    unfold dV dB dN dP dvl
    generalize it (dvs (T 82)) (e - bg).toNat bg (-1, 0, dv0 V, B, Nn, Pb) = s at a2 hlv ⊢
    have hdv : dvs (T 82) e s = (-1, s.2.1, dvp 32 (adV s.1 s.2.2.1) (adB s.1 s.2.2.1 s.2.2.2.1) (adN s.1 e s.2.2.1 s.2.2.2.2.1) s.2.2.2.2.2) := by
      show (if 0 < s.2.1 ∨ isdiv (tg (T 82) e) = false then _ else _) = _
      rw [h32, if_neg (fun z => by
        rcases z with z | z
        · omega
        · exact Bool.noConfusion z)]
    have hdp : dvp 32 (adV s.1 s.2.2.1) (adB s.1 s.2.2.1 s.2.2.2.1) (adN s.1 e s.2.2.1 s.2.2.2.2.1) s.2.2.2.2.2 = (adV s.1 s.2.2.1, adB s.1 s.2.2.1 s.2.2.2.1, adN s.1 e s.2.2.1 s.2.2.2.2.1, s.2.2.2.2.2) := if_neg (fun z => absurd z.1 (by decide))
    rw [hdv, hdp] at a2
    obtain ⟨b1, b2, b3, b4, b5, b6⟩ := a2
    have b1 : 0 ≤ adV s.1 s.2.2.1 5 ∧ 2 * adV s.1 s.2.2.1 5 + 0 ≤ e + 1 - bg := b1
    have b2 : S1 0 37 = adV s.1 s.2.2.1 5 + 0 := b2
    exact ⟨by omega, by omega, b3, b5.mono hbe.1 (by omega), b6⟩
  · obtain ⟨S1, a1, a2, a3⟩ := main e (by omega) (by omega)
    rw [show min (e + 1) ((T 82).length : Int) = e by omega]
    refine ⟨S1, a1, ?_, a3⟩
    unfold dV dB dN dP dvl
    generalize it (dvs (T 82)) (e - bg).toNat bg (-1, 0, dv0 V, B, Nn, Pb) = s at a2 ⊢
    obtain ⟨st, v, V1, B1, N1, P1⟩ := s
    obtain ⟨f1, f2, f3, f4, f5⟩ := a2.fin hbe.1 (by omega) e rfl
    have a3' : S1 0 38 = V1 7 := a2.2.2.1
    refine ⟨f1, ?_, ?_, ?_, ?_⟩
    · show 0 ≤ adV st V1 5 ∧ adV st V1 5 ≤ 31
      omega
    · show S1 0 38 = adV st V1 7
      rw [f2]
      exact a3'
    · show wdb S1 0 _ (adV st V1 5) (adV st V1 7) (adB st V1 B1) (adN st e V1 N1) P1
      rw [f2]
      exact f4.mono hbe.1 (by omega)
    · show pbk (adV st V1 7) (adV st V1 5) P1
      rw [f2]
      exact f5
theorem p_lowl {N : Nat} {S : s_M} {T : Int → List Int} (h : TX S T) {w : Int} (hw : 0 ≤ w ∧ w < 40) (hl : S 23 w ≤ ((T 82).length : Int)) : ∀ (m n : Nat) (i v : Int), 0 ≤ i → i + m = S 23 w → 0 ≤ v ∧ v ≤ i → m < n → A_low_l9 N n w v i S = some (s_b (p_sml (flo (T 82) m i v)), S)
  | m, 0, i, v, h0, h1, h2, h4 => absurd h4 (Nat.not_lt_zero _)
  | 0, n + 1, i, v, h0, h1, h2, h4 => by
    rw [A_low_l9_e, chk_e hw, if_neg (by omega)]
    rfl
  | m + 1, n + 1, i, v, h0, h1, h2, h4 => by
    have hn := h.len (k := 82) (by decide)
    have ha := p_att (N := N) h (t := 82) (k := i) (by decide) (by omega)
    have hlv := p_lev_rng (c := tg (T 82) i) h2
    have hr := p_lowl (N := N) h hw hl m n (i + 1) (p_lev v (tg (T 82) i)) (by omega) (by omega) hlv (by omega)
    have hj : A_low_j50 N (A_low_l9 N n) w v i (tg (T 82) i) S = some (s_b (p_sml (flo (T 82) m (i + 1) (p_lev v (tg (T 82) i)))), S) := by
      rw [A_low_j50_e, lev_eq, chk_e (by omega), chk_e (by omega), hr]
    rw [A_low_l9_e, chk_e hw, if_pos (by omega), bnd_e ha]
    show _ = some (s_b (p_sml (if v = 0 ∧ p_let (tg (T 82) i) = true then tg (T 82) i else flo (T 82) m (i + 1) (p_lev v (tg (T 82) i)))), S)
    by_cases c0 : v = 0
    · rw [if_pos c0]
      by_cases c1 : p_let (tg (T 82) i) = true
      · rw [if_pos c1, if_pos ⟨c0, c1⟩]
        rfl
      · rw [if_neg c1, if_neg (fun z => c1 z.2), hj]
    · rw [if_neg c0, if_neg (fun z => c0 z.1), hj]
theorem p_low1 {N : Nat} (hN : 100 ≤ N) {S : s_M} {T : Int → List Int} (h : TX S T) {w : Int} (hw : 0 ≤ w ∧ w < 40) {b e : Int} (hb : S 22 w = b) (he : S 23 w = e) (hbe : 0 ≤ b ∧ b ≤ e ∧ e ≤ ((T 82).length : Int)) : A_low N w S = some (s_b (p_sml (flo (T 82) (e - b).toNat b 0)), S) := by
  have hn := h.len (k := 82) (by decide)
  rw [A_low_e, chk_e hw, hb]
  exact p_lowl h hw (by omega) _ _ _ _ hbe.1 (by omega) (by omega) (by omega)
