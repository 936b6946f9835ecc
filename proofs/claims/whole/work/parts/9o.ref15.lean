theorem lws_it {t : List Int} {B N : Int → Int} : ∀ (m : Nat) (i : Int) (W : Int → Int) (j : Int), it (lws t B N) m i W j = if i ≤ j ∧ j < i + m then s_b (p_sml (flo t (N j - B j).toNat (B j) 0)) else W j
  | 0, i, W, j => by
    rw [if_neg (by omega)]
    rfl
  | m + 1, i, W, j => by
    show it (lws t B N) m (i + 1) (lws t B N i W) j = _
    rw [lws_it m (i + 1)]
    by_cases c : j = i
    · rw [if_neg (by omega), if_pos (by omega), c]
      exact rset_at
    · by_cases c2 : i ≤ j ∧ j < i + ((m + 1 : Nat) : Int)
      · rw [if_pos (by omega), if_pos c2]
      · rw [if_neg (by omega), if_neg c2]
        exact rset_ne c
theorem lwl_at {t : List Int} {B N W : Int → Int} {n j : Int} (h : 0 ≤ j ∧ j < n) : lwl t B N W n j = s_b (p_sml (flo t (N j - B j).toNat (B j) 0)) := by
  unfold lwl
  rw [lws_it, if_pos (by omega)]
theorem low1_snoc {W : Int → Int} : ∀ (m : Nat) (i : Int), 0 ≤ i → low1 W (m + 1) i = if low1 W m i < 0 then (if W (i + m) = 0 then -1 else i + m) else low1 W m i
  | 0, i, h => by
    show (if W i = 0 then -1 else i) = if (-1 : Int) < 0 then (if W (i + ((0 : Nat) : Int)) = 0 then -1 else i + ((0 : Nat) : Int)) else -1
    rw [if_pos (show (-1 : Int) < 0 by decide), show i + ((0 : Nat) : Int) = i by omega]
  | m + 1, i, h => by
    show (if W i = 0 then low1 W (m + 1) (i + 1) else i) = if (if W i = 0 then low1 W m (i + 1) else i) < 0 then _ else (if W i = 0 then low1 W m (i + 1) else i)
    by_cases c : W i = 0
    · rw [if_pos c, if_pos c, low1_snoc m (i + 1) (by omega), show i + 1 + (m : Int) = i + ((m + 1 : Nat) : Int) by omega]
    · rw [if_neg c, if_neg c, if_neg (by omega)]
theorem low12 {W : Int → Int} : ∀ m : Nat, (low1 W m 0 = -1 ∧ low2 W m = -1) ∨ (0 ≤ low1 W m 0 ∧ low1 W m 0 ≤ low2 W m ∧ low2 W m < m)
  | 0 => Or.inl ⟨rfl, rfl⟩
  | m + 1 => by
    have ih := low12 (W := W) m
    have e2 : low2 W (m + 1) = if W (m : Int) = 0 then low2 W m else (m : Int) := rfl
    rw [low1_snoc m 0 (by omega), e2, show (0 : Int) + (m : Int) = (m : Int) by omega]
    by_cases c : W (m : Int) = 0
    · rw [if_pos c, if_pos c]
      rcases ih with ⟨a, b⟩ | ⟨a, b, d⟩
      · rw [if_pos (by omega)]
        exact Or.inl ⟨rfl, b⟩
      · rw [if_neg (by omega)]
        exact Or.inr ⟨a, b, by omega⟩
    · rw [if_neg c, if_neg c]
      rcases ih with ⟨a, b⟩ | ⟨a, b, d⟩
      · rw [if_pos (by omega)]
        exact Or.inr ⟨by omega, by omega, by omega⟩
      · rw [if_neg (by omega)]
        exact Or.inr ⟨a, by omega, by omega⟩
/-- how many words the first part has -/
def n0_ (np w : Int) (Pb : Int → Int) : Int := if np ≤ 1 then w else Pb 1
theorem n0_rng {np w : Int} {Pb : Int → Int} (h : pbk np w Pb) (hw : 0 ≤ w) : 0 ≤ n0_ np w Pb ∧ n0_ np w Pb ≤ w := by
  unfold n0_
  split
  · omega
  · exact h.2.1 (by omega)
theorem ptn_0 {np w j : Int} {Pb : Int → Int} (hj : j < w) : ptn np Pb j = 0 ↔ j < n0_ np w Pb := by
  unfold ptn n0_
  by_cases c : np ≤ 1
  · rw [if_pos (Or.inl c), if_pos c]
    omega
  · rw [if_neg c]
    by_cases c2 : j < Pb 1
    · rw [if_pos (Or.inr c2)]
      omega
    · rw [if_neg (by omega)]
      split <;> omega
theorem ptn_rng {np j : Int} {Pb : Int → Int} : 0 ≤ ptn np Pb j ∧ ptn np Pb j ≤ 2 := by
  unfold ptn
  split
  · omega
  · split <;> omega
def rol (np : Int) (Pb : Int → Int) (n0 fi la j : Int) : Int := if 0 < ptn np Pb j then (if ptn np Pb j = np - 1 then 0 else 3) else if 1 < np then (if la < j then 2 else 1) else if la < 0 then (if j = n0 - 1 then 2 else 0) else (if j < fi then 0 else if la < j then 2 else 1)
theorem p_rol1 {N : Nat} {S : s_M} {np w : Int} {Pb : Int → Int} (h37 : S 0 37 = w) (hw : 0 ≤ w ∧ w ≤ 31) (h24 : ∀ j : Int, 0 ≤ j → j < w → S 24 j = ptn np Pb j) (hb : pbk np w Pb) : ∀ (m n : Nat) (i : Int), 0 ≤ i → i + m = n0_ np w Pb → m < n → A_roles_l2 N n i S = A_roles_j25 N (n0_ np w Pb) S
  | m, 0, i, h0, h1, h2 => absurd h2 (Nat.not_lt_zero _)
  | 0, n + 1, i, h0, h1, h2 => by
    have e : i = n0_ np w Pb := by omega
    have hr := n0_rng hb hw.1
    rw [A_roles_l2_e, ← e]
    by_cases c : i < w
    · have h3 := (ptn_0 (np := np) (Pb := Pb) c)
      rw [if_pos (by omega), chk_e (by omega), h24 i h0 c, if_neg (fun z => by have := h3.mp z; omega)]
    · rw [if_neg (by omega)]
  | m + 1, n + 1, i, h0, h1, h2 => by
    have hr := n0_rng hb hw.1
    have h3 := (ptn_0 (np := np) (Pb := Pb) (show i < w by omega)).mpr (by omega)
    rw [A_roles_l2_e, if_pos (by omega), chk_e (by omega), h24 i h0 (by omega), if_pos h3, chk_e (by omega)]
    exact p_rol1 h37 hw h24 hb m n (i + 1) (by omega) (by omega) (by omega)
theorem p_rol2 {N : Nat} {S : s_M} {Lw : Int → Int} {n0 w : Int} (hw : 0 ≤ n0 ∧ n0 ≤ w ∧ w ≤ 31) (hl : ∀ j : Int, 0 ≤ j → j < w → A_low N j S = some (Lw j, S)) : ∀ (m n : Nat) (k : Nat), ((k : Int) + m = n0 - 1 ∨ (m = 0 ∧ k = 0 ∧ n0 = 0)) → m < n → A_roles_l32 N n n0 (low1 Lw k 0) (low2 Lw k) (k : Int) S = A_roles_l72 N N n0 (low1 Lw (n0 - 1).toNat 0) (low2 Lw (n0 - 1).toNat) 0 S
  | m, 0, k, h1, h2 => absurd h2 (Nat.not_lt_zero _)
  | 0, n + 1, k, h1, h2 => by
    rw [A_roles_l32_e, chk_e (by omega), if_neg (by omega), show (n0 - 1).toNat = k by omega]
  | m + 1, n + 1, k, h1, h2 => by
    have hr := p_rol2 (N := N) hw hl m n (k + 1) (by omega) (by omega)
    have e2 : low2 Lw (k + 1) = if Lw (k : Int) = 0 then low2 Lw k else (k : Int) := rfl
    have hj : ∀ x y : Int, A_roles_j63 N (A_roles_l32 N n) n0 x y (k : Int) S = A_roles_l32 N n n0 x y ((k + 1 : Nat) : Int) S := fun x y => by
      rw [A_roles_j63_e, chk_e (by omega), show (k : Int) + 1 = ((k + 1 : Nat) : Int) by omega]
    have h12 := low12 (W := Lw) k
    rw [← hr, A_roles_l32_e, chk_e (by omega), if_pos (by omega), bnd_e (hl _ (by omega) (by omega)), e2, low1_snoc k 0 (by omega), show (0 : Int) + (k : Int) = (k : Int) by omega, hj, hj]
    by_cases c : Lw (k : Int) = 0
    · rw [if_pos c, if_pos c, if_pos c]
      congr 1
      split <;> omega
    · rw [if_neg c, if_neg c, if_neg c]
theorem p_rol3 {N : Nat} {np w : Int} {Pb : Int → Int} {n0 fi la : Int} (hw : 0 ≤ w ∧ w ≤ 31) (hb : pbk np w Pb) (hn : 0 ≤ n0 ∧ n0 ≤ 31) : ∀ (m n : Nat) (k : Int) (S : s_M), S 0 37 = w → S 0 38 = np → (∀ j : Int, 0 ≤ j → j < w → S 24 j = ptn np Pb j) → 0 ≤ k → k + m = w → m < n → ∃ S', A_roles_l72 N n n0 fi la k S = some (0, S') ∧ (∀ j : Int, k ≤ j → j < w → S' 25 j = rol np Pb n0 fi la j) ∧ ∀ q j : Int, ¬ (q = 25 ∧ k ≤ j) → S' q j = S q j
  | m, 0, k, S, h37, h38, h24, h0, h1, h2 => absurd h2 (Nat.not_lt_zero _)
  | 0, n + 1, k, S, h37, h38, h24, h0, h1, h2 => ⟨S, by rw [A_roles_l72_e, if_neg (by omega)], fun j j0 j1 => absurd j1 (by omega), fun _ _ _ => rfl⟩
  | m + 1, n + 1, k, S, h37, h38, h24, h0, h1, h2 => by
    have hnp := hb.1
    have hrg := ptn_rng (np := np) (j := k) (Pb := Pb)
    have main : A_roles_l72 N (n + 1) n0 fi la k S = A_roles_l72 N n n0 fi la (k + 1) (m_s S 25 k (rol np Pb n0 fi la k)) := by
      have hj : ∀ S1 : s_M, A_roles_j206 N (A_roles_l72 N n) n0 fi la k S1 = A_roles_l72 N n n0 fi la (k + 1) S1 := fun S1 => by
        rw [A_roles_j206_e, chk_e (by omega)]
      rw [A_roles_l72_e, if_pos (by omega), chk_e (by omega), h24 k h0 (by omega), h38, hj, hj, hj, hj]
      unfold rol
      by_cases c1 : 0 < ptn np Pb k
      · rw [if_pos c1, if_pos c1, chk_e (by omega), chk_e (by omega), chk_e (by omega)]
      · rw [if_neg c1, if_neg c1]
        by_cases c2 : 1 < np
        · rw [if_pos c2, if_pos c2, chk_e (by omega)]
        · rw [if_neg c2, if_neg c2]
          by_cases c3 : la < 0
          · rw [if_pos c3, if_pos c3, chk_e (by omega), chk_e (by omega)]
          · rw [if_neg c3, if_neg c3, chk_e (by omega)]
    obtain ⟨S2, a1, a2, a3⟩ := p_rol3 (N := N) (n0 := n0) (fi := fi) (la := la) hw hb hn m n (k + 1) (m_s S 25 k (rol np Pb n0 fi la k)) (by rw [m_sk (by decide)]; exact h37) (by rw [m_sk (by decide)]; exact h38) (fun j j0 j1 => by rw [m_sk (by decide)]; exact h24 j j0 j1) (by omega) (by omega) (by omega)
    refine ⟨S2, main.trans a1, fun j j0 j1 => ?_, fun q j z => ?_⟩
    · by_cases e : j = k
      · rw [e, a3 25 k (by omega), m_s_s]
      · exact a2 j (by omega) j1
    · rw [a3 q j (by omega), m_s_n (by omega)]
/-- who is who: the words by role -/
def rlk (S : s_M) (w : Int) (V : Int → Int) : Prop := ∀ j : Int, 0 ≤ j → j < w → (S 25 j = 0 ↔ V 8 ≤ j ∧ j < V 9) ∧ (S 25 j = 1 ↔ V 10 ≤ j ∧ j < V 11) ∧ (S 25 j = 2 ↔ V 12 ≤ j ∧ j < V 13) ∧ (S 25 j = 3 ↔ V 14 ≤ j ∧ j < V 15)
def rbk (w : Int) (V : Int → Int) : Prop := (0 ≤ V 8 ∧ V 9 ≤ w) ∧ (0 ≤ V 10 ∧ V 11 ≤ w) ∧ (0 ≤ V 12 ∧ V 13 ≤ w) ∧ (0 ≤ V 14 ∧ V 15 ≤ w)
theorem ao1_8 {V Lw : Int → Int} {w : Int} : ao1 V Lw w 8 = 0 := by
  unfold ao1
  rw [rset_ne (by decide), rset_ne (by decide), rset_ne (by decide), rset_ne (by decide), rset_ne (by decide), rset_ne (by decide), rset_ne (by decide), rset_at]
theorem ao2_8 {V Lw Pb : Int → Int} {w np : Int} : ao2 V Lw Pb w np 8 = Pb (np - 1) := by
  unfold ao2
  rw [rset_ne (by decide), rset_at]
theorem ao1_9 {V Lw : Int → Int} {w : Int} : ao1 V Lw w 9 = aoE Lw w := by
  unfold ao1
  rw [rset_ne (by decide), rset_ne (by decide), rset_ne (by decide), rset_ne (by decide), rset_ne (by decide), rset_ne (by decide), rset_at]
theorem ao2_9 {V Lw Pb : Int → Int} {w np : Int} : ao2 V Lw Pb w np 9 = w := by
  unfold ao2
  rw [rset_at]
theorem ao1_10 {V Lw : Int → Int} {w : Int} : ao1 V Lw w 10 = aoE Lw w := by
  unfold ao1
  rw [rset_ne (by decide), rset_ne (by decide), rset_ne (by decide), rset_ne (by decide), rset_ne (by decide), rset_at]
theorem ao2_10 {V Lw Pb : Int → Int} {w np : Int} : ao2 V Lw Pb w np 10 = 0 := by
  unfold ao2
  rw [rset_ne (by decide), rset_ne (by decide), rset_ne (by decide), rset_ne (by decide), rset_ne (by decide), rset_ne (by decide), rset_ne (by decide), rset_at]
theorem ao1_11 {V Lw : Int → Int} {w : Int} : ao1 V Lw w 11 = aoV Lw w := by
  unfold ao1
  rw [rset_ne (by decide), rset_ne (by decide), rset_ne (by decide), rset_ne (by decide), rset_at]
theorem ao2_11 {V Lw Pb : Int → Int} {w np : Int} : ao2 V Lw Pb w np 11 = low2 Lw (Pb 1 - 1).toNat + 1 := by
  unfold ao2
  rw [rset_ne (by decide), rset_ne (by decide), rset_ne (by decide), rset_ne (by decide), rset_ne (by decide), rset_ne (by decide), rset_at]
theorem ao1_12 {V Lw : Int → Int} {w : Int} : ao1 V Lw w 12 = aoV Lw w := by
  unfold ao1
  rw [rset_ne (by decide), rset_ne (by decide), rset_ne (by decide), rset_at]
theorem ao2_12 {V Lw Pb : Int → Int} {w np : Int} : ao2 V Lw Pb w np 12 = low2 Lw (Pb 1 - 1).toNat + 1 := by
  unfold ao2
  rw [rset_ne (by decide), rset_ne (by decide), rset_ne (by decide), rset_ne (by decide), rset_ne (by decide), rset_at]
theorem ao1_13 {V Lw : Int → Int} {w : Int} : ao1 V Lw w 13 = w := by
  unfold ao1
  rw [rset_ne (by decide), rset_ne (by decide), rset_at]
theorem ao2_13 {V Lw Pb : Int → Int} {w np : Int} : ao2 V Lw Pb w np 13 = Pb 1 := by
  unfold ao2
  rw [rset_ne (by decide), rset_ne (by decide), rset_ne (by decide), rset_ne (by decide), rset_at]
theorem ao1_14 {V Lw : Int → Int} {w : Int} : ao1 V Lw w 14 = w := by
  unfold ao1
  rw [rset_ne (by decide), rset_at]
theorem ao2_14 {V Lw Pb : Int → Int} {w np : Int} : ao2 V Lw Pb w np 14 = Pb 1 := by
  unfold ao2
  rw [rset_ne (by decide), rset_ne (by decide), rset_ne (by decide), rset_at]
theorem ao1_15 {V Lw : Int → Int} {w : Int} : ao1 V Lw w 15 = w := by
  unfold ao1
  rw [rset_at]
theorem ao2_15 {V Lw Pb : Int → Int} {w np : Int} : ao2 V Lw Pb w np 15 = Pb (np - 1) := by
  unfold ao2
  rw [rset_ne (by decide), rset_ne (by decide), rset_at]
theorem rol_iv {V Lw Pb : Int → Int} {w np j : Int} (h5 : V 5 = w) (h7 : V 7 = np) (hw : 0 ≤ w) (hb : pbk np w Pb) (hj : 0 ≤ j ∧ j < w) {r : Int} (hr : r = rol np Pb (n0_ np w Pb) (low1 Lw (n0_ np w Pb - 1).toNat 0) (low2 Lw (n0_ np w Pb - 1).toNat) j) : (r = 0 ↔ tkV V Lw Pb 8 ≤ j ∧ j < tkV V Lw Pb 9) ∧ (r = 1 ↔ tkV V Lw Pb 10 ≤ j ∧ j < tkV V Lw Pb 11) ∧ (r = 2 ↔ tkV V Lw Pb 12 ≤ j ∧ j < tkV V Lw Pb 13) ∧ (r = 3 ↔ tkV V Lw Pb 14 ≤ j ∧ j < tkV V Lw Pb 15) := by
  have hnp := hb.1
  have h0 := ptn_0 (np := np) (Pb := Pb) hj.2
  have hp := ptn_rng (np := np) (j := j) (Pb := Pb)
  have hn := n0_rng hb hw
  have h12 := low12 (W := Lw) (n0_ np w Pb - 1).toNat
  unfold tkV
  rw [h5, h7]
  by_cases c : np = 1
  · rw [if_pos c, ao1_8, ao1_9, ao1_10, ao1_11, ao1_12, ao1_13, ao1_14, ao1_15]
    have hz : n0_ np w Pb = w := if_pos (by omega)
    rw [hz] at h0 h12 hr
    have hf : aoF Lw w = low1 Lw (w - 1).toNat 0 := by
      unfold aoF aoL
      rw [show (max (w - 1) 0 - 0).toNat = (w - 1).toNat by omega]
    have hE : aoE Lw w = if low1 Lw (w - 1).toNat 0 < 0 then w - 1 else low1 Lw (w - 1).toNat 0 := by
      unfold aoE
      rw [hf]
      unfold aoL
      rw [show max (w - 1) 0 = w - 1 by omega]
    have hV : aoV Lw w = if low1 Lw (w - 1).toNat 0 < 0 then w - 1 else low2 Lw (w - 1).toNat + 1 := by
      unfold aoV
      rw [hf]
      unfold aoL
      rw [show max (w - 1) 0 = w - 1 by omega]
    unfold rol at hr
    rw [if_neg (by omega), if_neg (by omega)] at hr
    rw [hE, hV]
    rcases h12 with ⟨q1, q2⟩ | ⟨q1, q2, q3⟩
    · rw [if_pos (by omega), if_pos (by omega)]
      rw [if_pos (by omega)] at hr
      split at hr <;> omega
    · rw [if_neg (by omega), if_neg (by omega)]
      rw [if_neg (by omega)] at hr
      split at hr
      · omega
      · split at hr <;> omega
  · rw [if_neg c, ao2_8, ao2_9, ao2_10, ao2_11, ao2_12, ao2_13, ao2_14, ao2_15]
    have hz : n0_ np w Pb = Pb 1 := if_neg (by omega)
    rw [hz] at h0 h12 hr
    have g2 := hb.2.1 (by omega)
    unfold rol at hr
    by_cases c1 : j < Pb 1
    · have e0 := h0.mpr c1
      rw [if_neg (by omega), if_pos (by omega)] at hr
      have g3 : Pb 1 ≤ Pb (np - 1) := by
        rcases (by omega : np = 2 ∨ np = 3) with q | q
        · rw [q]
          exact Int.le_refl _
        · rw [q]
          exact (hb.2.2 (by omega)).1
      split at hr <;> omega
    · rw [if_pos (by omega)] at hr
      rcases (by omega : np = 2 ∨ np = 3) with q | q
      · have e1 : ptn np Pb j = 1 := by
          unfold ptn
          rw [if_neg (by omega), if_pos (by omega)]
        rw [e1, q, if_pos (by decide)] at hr
        rw [q]
        show (r = 0 ↔ Pb 1 ≤ j ∧ j < w) ∧ _ ∧ _ ∧ (r = 3 ↔ Pb 1 ≤ j ∧ j < Pb 1)
        omega
      · have g3 := hb.2.2 (by omega)
        rw [q]
        show (r = 0 ↔ Pb 2 ≤ j ∧ j < w) ∧ _ ∧ _ ∧ (r = 3 ↔ Pb 1 ≤ j ∧ j < Pb 2)
        by_cases c2 : j < Pb 2
        · have e1 : ptn np Pb j = 1 := by
            unfold ptn
            rw [if_neg (by omega), if_pos (by omega)]
          rw [e1, q, if_neg (by decide)] at hr
          omega
        · have e1 : ptn np Pb j = 2 := by
            unfold ptn
            rw [if_neg (by omega), if_neg (by omega)]
          rw [e1, q, if_pos (by decide)] at hr
          omega
theorem tkV_rb {V Lw Pb : Int → Int} {w np : Int} (h5 : V 5 = w) (h7 : V 7 = np) (hw : 0 ≤ w) (hb : pbk np w Pb) : rbk w (tkV V Lw Pb) := by
  have hnp := hb.1
  have h12 := low12 (W := Lw) (w - 1).toNat
  have h13 := low12 (W := Lw) (Pb 1 - 1).toNat
  unfold tkV rbk
  rw [h5, h7]
  by_cases c : np = 1
  · rw [if_pos c, ao1_8, ao1_9, ao1_10, ao1_11, ao1_12, ao1_13, ao1_14, ao1_15]
    have hf : aoF Lw w = low1 Lw (w - 1).toNat 0 := by
      unfold aoF aoL
      rw [show (max (w - 1) 0 - 0).toNat = (w - 1).toNat by omega]
    have hE : 0 ≤ aoE Lw w ∧ aoE Lw w ≤ w := by
      unfold aoE
      rw [hf]
      unfold aoL
      split <;> omega
    have hV : 0 ≤ aoV Lw w ∧ aoV Lw w ≤ w := by
      unfold aoV
      rw [hf]
      unfold aoL
      rw [show (max (w - 1) 0).toNat = (w - 1).toNat by omega]
      split <;> omega
    omega
  · rw [if_neg c, ao2_8, ao2_9, ao2_10, ao2_11, ao2_12, ao2_13, ao2_14, ao2_15]
    have g2 := hb.2.1 (by omega)
    have g4 : 0 ≤ Pb (np - 1) ∧ Pb (np - 1) ≤ w := by
      rcases (by omega : np = 2 ∨ np = 3) with q | q
      · rw [q]
        exact g2
      · rw [q]
        have := hb.2.2 (by omega)
        exact ⟨by show 0 ≤ Pb 2; omega, this.2⟩
    omega
theorem p_roles {N : Nat} (hN : 100 ≤ N) {S : s_M} {T : Int → List Int} (ht : TX S T) {V B Nn Pb W : Int → Int} (h : cfn S ((T 82).length : Int) V B Nn Pb) : ∃ S', A_roles N S = some (0, S') ∧ cfn S' ((T 82).length : Int) V B Nn Pb ∧ rlk S' (V 5) (tkV V (lwl (T 82) B Nn W (V 5)) Pb) ∧ rbk (V 5) (tkV V (lwl (T 82) B Nn W (V 5)) Pb) ∧ exB S S' := by
  have hl := ht.len (k := 82) (by decide)
  obtain ⟨a1, a2, a3, a4, a5⟩ := h
  have hn := n0_rng a5 a2.1
  have e1 := p_rol1 (N := N) (np := V 7) (w := V 5) (Pb := Pb) a1 a2 (fun j j0 j1 => (a4 j j0 j1).2.2.2) a5 (n0_ (V 7) (V 5) Pb).toNat N 0 (by omega) (by omega) (by omega)
  have e2 := p_rol2 (N := N) (S := S) (Lw := lwl (T 82) B Nn W (V 5)) (n0 := n0_ (V 7) (V 5) Pb) (w := V 5) ⟨hn.1, hn.2, a2.2⟩ (fun j j0 j1 => by
    obtain ⟨b1, b2, b3, b4⟩ := a4 j j0 j1
    rw [lwl_at ⟨j0, j1⟩]
    exact p_low1 hN ht (by omega) b1 b2 (by omega)) (n0_ (V 7) (V 5) Pb - 1).toNat N 0 (by omega) (by omega)
  obtain ⟨S1, b1, b2, b3⟩ := p_rol3 (N := N) (np := V 7) (w := V 5) (Pb := Pb) (n0 := n0_ (V 7) (V 5) Pb) (fi := low1 (lwl (T 82) B Nn W (V 5)) (n0_ (V 7) (V 5) Pb - 1).toNat 0) (la := low2 (lwl (T 82) B Nn W (V 5)) (n0_ (V 7) (V 5) Pb - 1).toNat) a2 a5 (by omega) (V 5).toNat N 0 S a1 a3 (fun j j0 j1 => (a4 j j0 j1).2.2.2) (by omega) (by omega) (by omega)
  have eb : ∀ q j : Int, q ≠ 25 → S1 q j = S q j := fun q j z => b3 q j (fun y => z y.1)
  refine ⟨S1, ?_, ⟨(eb 0 37 (by decide)).trans a1, a2, (eb 0 38 (by decide)).trans a3, a4.ext (Int.le_refl _) (fun q j z _ _ => eb q j (by omega)), a5⟩, fun j j0 j1 => ?_, tkV_rb rfl rfl a2.1 a5, fun q j z y => eb q j (by omega)⟩
  · rw [A_roles_e, e1, A_roles_j25_e]
    exact e2.trans b1
  · exact rol_iv rfl rfl a2.1 a5 ⟨j0, j1⟩ (b2 j j0 j1)
