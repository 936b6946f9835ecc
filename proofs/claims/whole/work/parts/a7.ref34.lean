theorem fi_cg {W W' : Int → Int} {w : Int} : ∀ (m : Nat) (i : Int), (∀ j : Int, i ≤ j → j < i + m → W j = W' j) → fi W w m i = fi W' w m i
  | 0, i, h => rfl
  | m + 1, i, h => by
    show (if W i = w then i else fi W w m (i + 1)) = (if W' i = w then i else fi W' w m (i + 1))
    rw [h i (by omega) (by omega), fi_cg m (i + 1) (fun j j0 j1 => h j (by omega) (by omega))]
theorem fx_cg {W W' : Int → Int} {n w : Int} (h : ∀ j : Int, 0 ≤ j → j < n → W j = W' j) : fx W n w = fx W' n w := fi_cg _ 0 (fun j j0 j1 => h j j0 (by omega))
theorem fi_snoc {W : Int → Int} {x : Int} : ∀ (m : Nat) (i : Int), 0 ≤ i → fi W x (m + 1) i = if 0 ≤ fi W x m i then fi W x m i else if W (i + m) = x then i + m else -1
  | 0, i, h => by
    show (if W i = x then i else -1) = (if 0 ≤ (-1 : Int) then -1 else if W (i + ((0 : Nat) : Int)) = x then i + ((0 : Nat) : Int) else -1)
    rw [if_neg (show ¬ 0 ≤ (-1 : Int) by decide), show i + ((0 : Nat) : Int) = i by omega]
  | m + 1, i, h => by
    have e : fi W x (m + 1) i = if W i = x then i else fi W x m (i + 1) := rfl
    show (if W i = x then i else fi W x (m + 1) (i + 1)) = _
    rw [e]
    by_cases c : W i = x
    · rw [if_pos c, if_pos c, if_pos h]
    · rw [if_neg c, if_neg c, fi_snoc m (i + 1) (by omega), show i + 1 + (m : Int) = i + ((m + 1 : Nat) : Int) by omega]
theorem fx_snoc {W : Int → Int} {n w x : Int} (hn : 0 ≤ n) : fx (rset W n w) (n + 1) x = if 0 ≤ fx W n x then fx W n x else if w = x then n else -1 := by
  have e : fx (rset W n w) (n + 1) x = fi (rset W n w) x (n.toNat + 1) 0 := by
    unfold fx
    rw [show (n + 1 - 0).toNat = n.toNat + 1 by omega]
  have e2 : fi (rset W n w) x n.toNat 0 = fx W n x := by
    unfold fx
    rw [show (n - 0).toNat = n.toNat by omega]
    exact fi_cg _ 0 (fun j j0 j1 => rset_ne (by omega))
  rw [e, fi_snoc _ 0 (by omega), e2, show (0 : Int) + (n.toNat : Int) = n by omega, rset_at]
/-- the entry that is being read -/
def scr (S : s_M) (T : Int → List Int) (x : sen) : Prop := S 7 8 = x.1.2.2.2 ∧ (0 ≤ x.1.2.2.2 ∧ x.1.2.2.2 ≤ 6) ∧ (∀ f : Int, 0 ≤ f → f < x.1.2.2.2 → S 8 (48 + f) = x.2.1 f ∧ T (48 + f) = x.2.2.1 f ∧ prt (x.2.2.1 f) ∧ wdk (x.2.1 f) ∧ (x.2.2.1 f).length ≤ 60) ∧ dst_ x.2.1 x.1.2.2.2 ∧ x.1.2.2.1 = xrf x
theorem scr.exr {S S' : s_M} {T T' : Int → List Int} {x : sen} (h : scr S T x) (e : exRd S S') (eT : ∀ q : Int, q ≠ 82 → T' q = T q) : scr S' T' x := by
  obtain ⟨h1, h2, h3, h4⟩ := h
  refine ⟨(e 7 8 (by decide) (by decide) (by decide) (by omega)).trans h1, h2, fun f f0 f1 => ?_, h4⟩
  obtain ⟨a1, a2, a3⟩ := h3 f f0 f1
  exact ⟨(e 8 _ (by decide) (by decide) (by decide) (by omega)).trans a1, (eT _ (by omega)).trans a2, a3⟩
theorem p_own8l {N : Nat} {S : s_M} {T : Int → List Int} {w : Int} {x : sen} (h : scr S T x) : ∀ (m n : Nat) (f g : Int), 0 ≤ f → f + m = x.1.2.2.2 → m < n → A_own_l6 N n 8 w g f S = some (lxo x.2.1 w 8 m f g, S)
  | m, 0, f, g, h0, h1, h2 => absurd h2 (Nat.not_lt_zero _)
  | 0, n + 1, f, g, h0, h1, h2 => by
    have h7 := h.1
    rw [A_own_l6_e, chk_e (by omega), if_neg (by omega)]
    rfl
  | m + 1, n + 1, f, g, h0, h1, h2 => by
    have h7 := h.1
    have hc := h.2.1
    have hw := (h.2.2.1 f h0 (by omega)).1
    rw [A_own_l6_e, chk_e (by omega), if_pos (by omega), chk_e (by omega), chk_e (by omega), chk_e (by omega), show (6 * 8 + f : Int) = 48 + f by omega, hw]
    show _ = some (lxo x.2.1 w 8 m (f + 1) (if x.2.1 f = w then 6 * 8 + f else g), S)
    by_cases q : x.2.1 f = w
    · rw [if_pos q, if_pos q, chk_e (by omega), chk_e (by omega), A_own_j46_e, chk_e (by omega), show (6 * 8 + f : Int) = 48 + f by omega]
      exact p_own8l h m n (f + 1) _ (by omega) (by omega) (by omega)
    · rw [if_neg q, if_neg q, A_own_j46_e, chk_e (by omega)]
      exact p_own8l h m n (f + 1) _ (by omega) (by omega) (by omega)
theorem p_own8 {N : Nat} (hN : 100 ≤ N) {S : s_M} {T : Int → List Int} {w : Int} {x : sen} (h : scr S T x) : A_own N 8 w S = some (if fx x.2.1 x.1.2.2.2 w < 0 then -1 else 6 * 8 + fx x.2.1 x.1.2.2.2 w, S) := by
  have hc := h.2.1
  rw [A_own_e, p_own8l h x.1.2.2.2.toNat N 0 (-1) (by omega) (by omega) (by omega), lxo_fi h.2.2.2.1 _ 0 (-1) (by omega) (by omega)]
  unfold fx
  rw [show (x.1.2.2.2 - 0).toNat = x.1.2.2.2.toNat by omega]
theorem adf_q {x : sen} {w : Int} {u : List Int} (h : aq x.2.1 x.1.2.2.2 w) : adf x w u = x := by
  unfold adf
  rw [if_pos h, if_pos h, if_pos h, if_pos h]
theorem adf_n {x : sen} {w : Int} {u : List Int} (h : ¬ aq x.2.1 x.1.2.2.2 w) (hu : u.length ≤ 60) : adf x w u = ((x.1.1, x.1.2.1, if w = xref then aof u else x.1.2.2.1, x.1.2.2.2 + 1), rset x.2.1 x.1.2.2.2 w, lset x.2.2.1 x.1.2.2.2 u, x.2.2.2) := by
  unfold adf
  rw [if_neg h, if_neg h, if_neg h, if_neg h, List.take_of_length_le hu]
theorem xrf_adf {x : sen} {w : Int} {u : List Int} (h : ¬ aq x.2.1 x.1.2.2.2 w) (h0 : 0 ≤ x.1.2.2.2) (hx : x.1.2.2.1 = xrf x) : (if w = xref then aof u else x.1.2.2.1) = xrf ((x.1.1, x.1.2.1, if w = xref then aof u else x.1.2.2.1, x.1.2.2.2 + 1), rset x.2.1 x.1.2.2.2 w, lset x.2.2.1 x.1.2.2.2 u, x.2.2.2) := by
  have hr := fx_rng (W := x.2.1) (w := xref) h0
  have hs := fx_snoc (W := x.2.1) (w := w) (x := xref) h0
  have h2 : ¬ 0 ≤ fx x.2.1 x.1.2.2.2 w := fun z => h (Or.inr z)
  show _ = (if fx (rset x.2.1 x.1.2.2.2 w) (x.1.2.2.2 + 1) xref < 0 then 0 else aof (lset x.2.2.1 x.1.2.2.2 u (fx (rset x.2.1 x.1.2.2.2 w) (x.1.2.2.2 + 1) xref)))
  rw [hs]
  by_cases c : 0 ≤ fx x.2.1 x.1.2.2.2 xref
  · have hw : ¬ w = xref := fun z => h2 (by rw [z]; exact c)
    rw [if_pos c, if_neg hw, if_neg (by omega), lset_ne (by omega), hx]
    unfold xrf
    rw [if_neg (by omega)]
  · rw [if_neg c]
    by_cases d : w = xref
    · rw [if_pos d, if_pos d, if_neg (by omega), lset_at]
    · rw [if_neg d, if_neg d, if_pos (by decide), hx]
      unfold xrf
      rw [if_pos (by omega)]
/-- what reading a field changes -/
def exFd (S S' : s_M) : Prop := ∀ q j : Int, q ≠ 1 → q ≠ 3 → q ≠ 4 → ¬ (q = 0 ∧ 17 ≤ j ∧ j ≤ 21) → ¬ (q = 7 ∧ j = 8) → ¬ (q = 8 ∧ 48 ≤ j) → S' q j = S q j
theorem exFd.refl (S : s_M) : exFd S S := fun _ _ _ _ _ _ _ _ => rfl
theorem exFd.trans {A B C : s_M} (h1 : exFd A B) (h2 : exFd B C) : exFd A C := fun q j a b c d e f => (h2 q j a b c d e f).trans (h1 q j a b c d e f)
theorem exRd.exFd {S S' : s_M} (h : exRd S S') : exFd S S' := fun q j a b c d _ _ => h q j a b c d
theorem exFd.exA {S S' : s_M} (h : exFd S S') : exA S S' := fun q j a b => h q j (by omega) (by omega) (by omega) (by omega) (by omega) (by omega)
def fF (T T' : Int → List Int) : Prop := ∀ q : Int, q ≠ 82 → ¬ (48 ≤ q ∧ q < 54) → T' q = T q
theorem fF.refl (T : Int → List Int) : fF T T := fun _ _ _ => rfl
theorem fF.trans {A B C : Int → List Int} (h1 : fF A B) (h2 : fF B C) : fF A C := fun q a b => (h2 q a b).trans (h1 q a b)
theorem sts.exf {S S' : s_M} {T T' : Int → List Int} {W : Int → Int} {Y : Int → List Int} {nr : Int} (h : sts S T W Y nr) (e : exFd S S') (eT : fF T T') : sts S' T' W Y nr := by
  obtain ⟨h1, h2, h3, h4⟩ := h
  refine ⟨(e 0 11 (by decide) (by decide) (by decide) (by omega) (by omega) (by omega)).trans h1, h2, fun i i0 i1 => ?_, h4⟩
  obtain ⟨a1, a2, a3⟩ := h3 i i0 i1
  exact ⟨(e 9 i (by decide) (by decide) (by decide) (by omega) (by omega) (by omega)).trans a1, (eT _ (by omega) (by omega)).trans a2, a3⟩
theorem enr.exl {S S' : s_M} {T T' : Int → List Int} {e : Int} {x : sen} (h : enr S T e x) (e5 : S' 5 e = S 5 e) (e6 : S' 6 e = S 6 e) (e7 : S' 7 e = S 7 e) (e8 : ∀ f, 0 ≤ f → f < 6 → S' 8 (6 * e + f) = S 8 (6 * e + f)) (eT : ∀ f, 0 ≤ f → f < 6 → T' (6 * e + f) = T (6 * e + f)) : enr S' T' e x := by
  obtain ⟨a1, a2, a3, a4, a5, a6⟩ := h
  refine ⟨e5.trans a1, e6.trans a2, e7.trans a3, a4, fun f f0 f1 => ?_, a6⟩
  obtain ⟨b1, b2, b3⟩ := a5 f f0 f1
  exact ⟨(e8 f f0 (by omega)).trans b1, (eT f f0 (by omega)).trans b2, b3⟩
theorem EX.exl {S S' : s_M} {T T' : Int → List Int} {E : Int → sen} {n : Int} (h : EX S T E n) (e06 : S' 0 6 = S 0 6) (e5 : ∀ q j : Int, 5 ≤ q → q ≤ 7 → j < n → S' q j = S q j) (e8 : ∀ j : Int, j < 6 * n → S' 8 j = S 8 j) (eT : ∀ q : Int, q < 6 * n → T' q = T q) : EX S' T' E n := by
  obtain ⟨a1, a2, a3, a4⟩ := h
  exact ⟨e06.trans a1, a2, fun k k0 k1 => (a3 k k0 k1).exl (e5 5 k (by decide) (by decide) k1) (e5 6 k (by decide) (by decide) k1) (e5 7 k (by decide) (by decide) k1) (fun f f0 f1 => e8 _ (by omega)) (fun f f0 f1 => eT _ (by omega)), a4⟩
theorem EX.exf {S S' : s_M} {T T' : Int → List Int} {E : Int → sen} {n : Int} (h : EX S T E n) (e : exFd S S') (eT : fF T T') : EX S' T' E n := by
  have hn := h.len
  exact h.exl (e 0 6 (by decide) (by decide) (by decide) (by omega) (by omega) (by omega)) (fun q j q0 q1 j1 => e q j (by omega) (by omega) (by omega) (by omega) (by omega) (by omega)) (fun j j1 => e 8 j (by decide) (by decide) (by decide) (by omega) (by omega) (by omega)) (fun q q1 => eT q (by omega) (by omega))
/-- what a field comes to, beside the program's q -/
def fdK (S S' : s_M) (T T' : Int → List Int) (t : List Int) (a : Int) (x : sen) (q : Bool × Int × tvT) : Prop := TX S' T' ∧ fF T T' ∧ exFd S S' ∧ WX S' (if q.1 = true then q.2.2.2.2 else inc q.2.2.2.2 1) ∧ S' 0 17 = q.2.2.2.1 6 ∧ S' 0 18 = (if q.1 = true then 0 else 1) ∧ S' 0 21 = S 0 21 + (if q.1 = true then 0 else 1) ∧ (a ≤ q.2.2.2.1 6 ∧ q.2.2.2.1 6 ≤ (t.length : Int)) ∧ (q.1 = true → scr S' T' (adf x q.2.1 q.2.2.1) ∧ pb t (q.2.2.2.1 6) = q.2.2.2.1 6)
theorem p_readField {N : Nat} (hN : 1000 ≤ N) {t v : List Int} {W : Int → Int} {Y : Int → List Int} {p : Int} {x : sen} {S : s_M} {T : Int → List Int} {V WN : Int → Int} (ht : TX S T) (hs : srx S t) (hst : sts S T W Y (V 5)) (hw : WX S WN) (h17 : S 0 17 = V 6) (h0 : 0 ≤ V 6 ∧ V 6 ≤ (t.length : Int)) (h18 : S 0 18 = 0) (h21 : 0 ≤ S 0 21 ∧ S 0 21 < 999) (hx : scr S T x) : ∃ S' T', A_readField N S = some (0, S') ∧ fdK S S' T T' t (V 6) x (wv1 t W Y p v V WN) := by
  obtain ⟨S1, T1, hk, rd, rg, hok⟩ := p_wv (N := N) (p := p) (v := v) hN ht hs hst hw h17 h0 h18 (by omega)
  obtain ⟨q, hq⟩ : ∃ q, q = wv1 t W Y p v V WN := ⟨_, rfl⟩
  rw [← hq] at hk rd rg hok ⊢
  obtain ⟨b1, b2, b3, b4, b5, b6, b7⟩ := rd
  have st := hk (fun v1 S16 => if (S16 0 18) = 0 then (bnd (A_own N 8 v1 S16) fun v25 S26 => if v25 < 0 then (if (S26 7 8) = 6 then (A_readField_j44 N S26) else (chk (rI (48 + (S26 7 8))) <| chk (0 ≤ (48 + (S26 7 8)) ∧ (48 + (S26 7 8)) < 54) <| chk (rI (48 + (S26 7 8))) <| bnd (A_copy N 82 (48 + (S26 7 8)) (m_s S26 8 (48 + (S26 7 8)) v1)) fun v45 S46 => chk (rI ((S46 7 8) + 1)) <| some (0, m_s S46 7 8 ((S46 7 8) + 1)))) else (A_readField_j44 N S26)) else (A_readField_j44 N S16))
  rw [A_readField_e, st]
  by_cases c : q.1 = true
  · obtain ⟨o1, o2, o3, o4⟩ := hok c
    have hx1 : scr S1 T1 x := hx.exr b3 b2
    have hl82 := (b1.len (k := 82) (by decide)).2
    rw [o1] at hl82
    have k18 : S1 0 18 = 0 := by rw [b6, if_pos c]
    have hcn := hx1.2.1
    rw [if_pos k18, bnd_e (p_own8 (by omega) hx1), hx1.1]
    have hfr := fx_rng (W := x.2.1) (w := q.2.1) hcn.1
    by_cases f : aq x.2.1 x.1.2.2.2 q.2.1
    · refine ⟨S1, T1, ?_, b1, fun z y _ => b2 z y, b3.exFd, b4, b5, b6, b7, rg, fun _ => ⟨by rw [adf_q f]; exact hx1, o3⟩⟩
      by_cases g : fx x.2.1 x.1.2.2.2 q.2.1 < 0
      · rw [if_pos g, if_pos (by decide), if_pos (by rcases f with z | z <;> omega), A_readField_j44_e]
      · rw [if_neg g, if_neg (by omega), A_readField_j44_e]
    · have g : fx x.2.1 x.1.2.2.2 q.2.1 < 0 := by
        rcases Int.lt_or_le (fx x.2.1 x.1.2.2.2 q.2.1) 0 with z | z
        · exact z
        · exact absurd (Or.inr z) f
      have g6 : x.1.2.2.2 < 6 := by
        rcases Int.lt_or_le x.1.2.2.2 6 with z | z
        · exact z
        · exact absurd (Or.inl z) f
      have ht2 : TX (m_s S1 8 (48 + x.1.2.2.2) q.2.1) T1 := b1.ex (fun z j y => m_sk (by omega))
      obtain ⟨S2, d1, d2, d3⟩ := p_copy (N := N) (by omega) ht2 (a := 82) (b := 48 + x.1.2.2.2) (by decide) (by omega)
      have k7 : S2 7 8 = x.1.2.2.2 := (d3 7 8 (by decide) (by decide)).trans ((m_sk (by decide)).trans hx1.1)
      rw [if_pos g, if_pos (by decide), if_neg (by omega), chk_e (by omega), chk_e (by omega), chk_e (by omega), bnd_e d1, k7, chk_e (by omega)]
      have kk : ∀ z j : Int, z ≠ 3 → z ≠ 4 → ¬ (z = 7 ∧ j = 8) → ¬ (z = 8 ∧ j = 48 + x.1.2.2.2) → m_s S2 7 8 (x.1.2.2.2 + 1) z j = S1 z j := fun z j y1 y2 y3 y4 => by
        rw [m_s_n y3, d3 z j y1 y2, m_s_n y4]
      refine ⟨_, _, rfl, d2.ex (fun z j y => m_sk (by omega)), fun z y1 y2 => (lset_ne (by omega)).trans (b2 z y1), b3.exFd.trans (fun z j y1 y2 y3 y4 y5 y6 => kk z j y2 y3 y5 (by omega)), b4.ex (fun j => kk 1 j (by decide) (by decide) (by omega) (by omega)), (kk 0 17 (by decide) (by decide) (by omega) (by omega)).trans b5, (kk 0 18 (by decide) (by decide) (by omega) (by omega)).trans b6, (kk 0 21 (by decide) (by decide) (by omega) (by omega)).trans b7, rg, fun _ => ⟨?_, o3⟩⟩
      rw [adf_n f hl82]
      refine ⟨m_s_s, by show 0 ≤ x.1.2.2.2 + 1 ∧ x.1.2.2.2 + 1 ≤ 6; omega, fun i i0 i1 => ?_, dst_add hx1.2.2.2.1 (fx_no g), xrf_adf f hcn.1 hx1.2.2.2.2⟩
      have i1' : i < x.1.2.2.2 + 1 := i1
      show m_s S2 7 8 (x.1.2.2.2 + 1) 8 (48 + i) = rset x.2.1 x.1.2.2.2 q.2.1 i ∧ lset T1 (48 + x.1.2.2.2) (T1 82) (48 + i) = lset x.2.2.1 x.1.2.2.2 q.2.2.1 i ∧ prt (lset x.2.2.1 x.1.2.2.2 q.2.2.1 i) ∧ wdk (rset x.2.1 x.1.2.2.2 q.2.1 i) ∧ (lset x.2.2.1 x.1.2.2.2 q.2.2.1 i).length ≤ 60
      by_cases ci : i = x.1.2.2.2
      · rw [ci, lset_at, lset_at, rset_at, m_sk (by decide), d3 8 _ (by decide) (by decide), m_s_s, o1]
        exact ⟨rfl, rfl, o2, o4, hl82⟩
      · obtain ⟨y1, y2, y3⟩ := hx1.2.2.1 i i0 (by omega)
        rw [lset_ne (show i ≠ x.1.2.2.2 from ci), lset_ne (by omega), rset_ne ci, kk 8 _ (by decide) (by decide) (by omega) (by omega)]
        exact ⟨y1, y2, y3⟩
  · rw [if_neg (show ¬ S1 0 18 = 0 by rw [b6, if_neg c]; decide), A_readField_j44_e]
    exact ⟨S1, T1, rfl, b1, fun z y _ => b2 z y, b3.exFd, b4, b5, b6, b7, rg, fun z => absurd z c⟩
/-- what an entry's fields come to, beside the program's c -/
def enK (S S' : s_M) (T T' : Int → List Int) (t : List Int) (a n5 : Int) (x : sen) (c : Bool × teT) : Prop := TX S' T' ∧ fF T T' ∧ exFd S S' ∧ (a ≤ c.2.1.2.1 6 ∧ c.2.1.2.1 6 ≤ (t.length : Int)) ∧ (c.2.2.1.1 = x.1.1 ∧ c.2.2.1.2.1 = x.1.2.1) ∧ c.2.1.2.1 5 = n5 ∧ ((S' 0 18 = 1 ∧ c.1 = false ∧ WX S' (inc c.2.1.2.2 1) ∧ S' 0 17 = c.2.1.2.1 6 ∧ S' 0 21 = S 0 21 + 1) ∨ (S' 0 18 = 0 ∧ WX S' c.2.1.2.2 ∧ S' 0 21 = S 0 21 ∧ (0 ≤ S' 0 17 ∧ S' 0 17 ≤ (t.length : Int)) ∧ tsk t 125 (S' 0 17) = (c.1, c.2.1.2.1 6) ∧ scr S' T' c.2.2))
theorem enK.after {S0 S S' : s_M} {T0 T T' : Int → List Int} {t : List Int} {a a0 n5 : Int} {x x0 : sen} {c : Bool × teT} (h : enK S S' T T' t a n5 x c) (hT : fF T0 T) (hS : exFd S0 S) (ha : a0 ≤ a) (h1 : x.1.1 = x0.1.1) (h2 : x.1.2.1 = x0.1.2.1) (h21 : S 0 21 = S0 0 21) : enK S0 S' T0 T' t a0 n5 x0 c := by
  obtain ⟨q1, q2, q3, q4, q5, q6, q7⟩ := h
  rw [h1, h2] at q5
  rw [h21] at q7
  exact ⟨q1, hT.trans q2, hS.trans q3, by omega, q5, q6, q7⟩
theorem adf_1 {x : sen} {w : Int} {u : List Int} : (adf x w u).1.1 = x.1.1 ∧ (adf x w u).1.2.1 = x.1.2.1 := ⟨rfl, rfl⟩
theorem sg5 {t : List Int} {c : Int} {V : Int → Int} : sgV t c V 5 = V 5 := by simp [sgV, rset]
theorem sg6 {t : List Int} {c : Int} {V : Int → Int} : sgV t c V 6 = (tsk t c (V 6)).2 := by simp [sgV, rset]
theorem tsk_y {t : List Int} {c i : Int} (h : tg t (pb t i) = c) : tsk t c i = (true, pb t i + 1) := if_pos h
theorem tsk_n {t : List Int} {c i : Int} (h : ¬ tg t (pb t i) = c) : tsk t c i = (false, pb t i) := if_neg h
theorem tg_lt {t : List Int} {i c : Int} (h : tg t i = c) (hc : 0 < c) : i < (t.length : Int) := by
  by_cases y : i < (t.length : Int)
  · exact y
  · rw [(hr_out y).2] at h
    omega
theorem p_enl {N : Nat} (hN : 1000 ≤ N) {t : List Int} {W : Int → Int} {Y : Int → List Int} {p ty key : Int} : ∀ (m n : Nat) (S : s_M) (T : Int → List Int) (s : tvT) (x : sen), TX S T → srx S t → sts S T W Y (s.2.1 5) → WX S s.2.2 → S 0 17 = s.2.1 6 → 0 ≤ s.2.1 6 ∧ s.2.1 6 ≤ (t.length : Int) → S 0 18 = 0 → 0 ≤ S 0 21 ∧ S 0 21 < 999 → scr S T x → 321 ≤ s.2.1 6 + m → m + 2 < n → ∃ S' T' n', A_entry_l27 N n ty key 1 S = A_entry_l27 N (n' + 1) ty key 0 S' ∧ enK S S' T T' t (s.2.1 6) (s.2.1 5) x (tec t (tel t W Y p m false (s, x)))
  | m, 0, S, T, s, x, ht, hs, hst, hw, h17, h0, h18, h21, hx, hm, hn => absurd hn (Nat.not_lt_zero _)
  | 0, n + 1, S, T, s, x, ht, hs, hst, hw, h17, h0, h18, h21, hx, hm, hn => by
    have h320 := hs.2.1
    omega
  | m + 1, n + 1, S, T, s, x, ht, hs, hst, hw, h17, h0, h18, h21, hx, hm, hn => by
    have h320 := hs.2.1
    obtain ⟨n', en⟩ : ∃ n', n = n' + 1 := ⟨n - 1, by omega⟩
    have hb := p_blanks (N := N) hN hs h17 h0
    have hq := pb_in (t := t) h0.2
    have hh := p_here (N := N) (hs.at (x := pb t (s.2.1 6))) m_s_s (by omega)
    have e : tel t W Y p (m + 1) false (s, x) = if (te1 t W Y p (s, x)).1 = 2 then tel t W Y p m false (te1 t W Y p (s, x)).2 else te1 t W Y p (s, x) := if_neg (fun z => Bool.noConfusion z)
    have htx : ∀ y : Int, TX (m_s S 0 17 y) T := fun y => ht.ex (fun q j z => m_sk (by omega))
    have a18 : ∀ y : Int, m_s S 0 17 y 0 18 = 0 := fun y => (m_sj (by decide)).trans h18
    have a21 : ∀ y : Int, m_s S 0 17 y 0 21 = S 0 21 := fun y => m_sj (by decide)
    rw [A_entry_l27_e, if_neg (by decide), bnd_e hb, bnd_e hh, e]
    by_cases c1 : tg t (pb t (s.2.1 6)) = 44
    · have hin := tg_lt c1 (by decide)
      have f1 := tsk_y c1
      have g6 : sgV t 44 s.2.1 6 = pb t (s.2.1 6) + 1 := by rw [sg6, f1]
      have hb2 := p_blanks (N := N) hN (hs.at (x := pb t (s.2.1 6) + 1)) m_s_s ⟨by omega, by omega⟩
      have hq2 := pb_in (t := t) (i := pb t (s.2.1 6) + 1) (by omega)
      have hh2 := p_here (N := N) (hs.at (x := pb t (pb t (s.2.1 6) + 1))) m_s_s (by omega)
      rw [m_s_twice] at hb2
      rw [(hr_eq (by decide)).mpr c1, if_pos rfl, if_neg (by decide), m_s_s, chk_e (by omega), m_s_twice, bnd_e hb2, bnd_e hh2]
      by_cases c2 : tg t (pb t (pb t (s.2.1 6) + 1)) = 125
      · have hin2 := tg_lt c2 (by decide)
        have f2 := tsk_y c2
        have et : te1 t W Y p (s, x) = (1, (s.1, sgV t 125 (sgV t 44 s.2.1), s.2.2), x) := (if_pos (by show (tsk t 44 (s.2.1 6)).1 = true; rw [f1])).trans (if_pos (by rw [g6, f2]))
        have k6 : sgV t 125 (sgV t 44 s.2.1) 6 = pb t (pb t (s.2.1 6) + 1) + 1 := by rw [sg6, g6, f2]
        rw [et, if_neg (show ¬ ((1 : Int), (s.1, sgV t 125 (sgV t 44 s.2.1), s.2.2), x).1 = 2 from (by decide : ¬ (1 : Int) = 2)), (hr_eq (by decide)).mpr c2, if_pos rfl, A_entry_j84_e, if_pos (a18 _), bnd_e hh2, if_pos ((hr_eq (by decide)).mpr c2), A_entry_j104_e, A_entry_j105_e]
        have ec : tec t (1, (s.1, sgV t 125 (sgV t 44 s.2.1), s.2.2), x) = (true, (s.1, sgV t 125 (sgV t 44 s.2.1), s.2.2), x) := (if_neg (show ¬ (1 : Int) = 3 by decide)).trans (if_pos rfl)
        rw [ec, en]
        refine ⟨_, T, n', rfl, htx _, fF.refl T, exW.at.exRd.exFd, ?_, ⟨rfl, rfl⟩, ?_, Or.inr ⟨a18 _, hw.exw exW.at, a21 _, ?_, ?_, hx.exr exW.at.exRd (fun _ _ => rfl)⟩⟩
        · show s.2.1 6 ≤ sgV t 125 (sgV t 44 s.2.1) 6 ∧ sgV t 125 (sgV t 44 s.2.1) 6 ≤ (t.length : Int)
          rw [k6]
          omega
        · show sgV t 125 (sgV t 44 s.2.1) 5 = s.2.1 5
          rw [sg5, sg5]
        · rw [m_s_s]
          omega
        · show tsk t 125 (m_s S 0 17 (pb t (pb t (s.2.1 6) + 1)) 0 17) = (true, sgV t 125 (sgV t 44 s.2.1) 6)
          rw [m_s_s, k6, tsk_y (by rw [pb_pb (by omega)]; exact c2), pb_pb (by omega)]
      · have f2 := tsk_n c2
        have n2 : ¬ hr t (pb t (pb t (s.2.1 6) + 1)) = 125 := fun z => c2 ((hr_eq (by decide)).mp z)
        have k6 : sgV t 125 (sgV t 44 s.2.1) 6 = pb t (pb t (s.2.1 6) + 1) := by rw [sg6, g6, f2]
        have k5 : sgV t 125 (sgV t 44 s.2.1) 5 = s.2.1 5 := by rw [sg5, sg5]
        obtain ⟨S3, T3, r1, r2⟩ := p_readField (N := N) (t := t) (v := s.1) (W := W) (Y := Y) (p := p) (x := x) (V := sgV t 125 (sgV t 44 s.2.1)) (WN := s.2.2) hN (htx (pb t (pb t (s.2.1 6) + 1))) hs.at (by rw [k5]; exact hst.ex exW.at.exRd (fun _ _ => rfl)) (hw.exw exW.at) (by rw [m_s_s, k6]) (by rw [k6]; omega) (a18 _) (by rw [a21]; exact h21) (hx.exr exW.at.exRd (fun _ _ => rfl))
        have w5 := (wv1_ok (W := W) (p := p) (v := s.1) (WN := s.2.2) (t := t) (V := sgV t 125 (sgV t 44 s.2.1)) (Y := Y) ⟨by rw [k6]; omega, by rw [k5]; exact hst.2.1⟩ h320 hst.2.2.2.2).2.1
        have et0 : te1 t W Y p (s, x) = if (wv1 t W Y p s.1 (sgV t 125 (sgV t 44 s.2.1)) s.2.2).1 = true then (2, (wv1 t W Y p s.1 (sgV t 125 (sgV t 44 s.2.1)) s.2.2).2.2, adf x (wv1 t W Y p s.1 (sgV t 125 (sgV t 44 s.2.1)) s.2.2).2.1 (wv1 t W Y p s.1 (sgV t 125 (sgV t 44 s.2.1)) s.2.2).2.2.1) else (3, (wv1 t W Y p s.1 (sgV t 125 (sgV t 44 s.2.1)) s.2.2).2.2, x) := (if_pos (by show (tsk t 44 (s.2.1 6)).1 = true; rw [f1])).trans (if_neg (by show ¬ (tsk t 125 (sgV t 44 s.2.1 6)).1 = true; rw [g6, f2]; exact fun z => Bool.noConfusion z))
        obtain ⟨q, hqq⟩ : ∃ q, q = wv1 t W Y p s.1 (sgV t 125 (sgV t 44 s.2.1)) s.2.2 := ⟨_, rfl⟩
        rw [← hqq] at r2 w5 et0
        rw [k5] at w5
        rw [k6] at r2
        obtain ⟨u1, u2, u3, u4, u5, u6, u7, u8, u9⟩ := r2
        have xF : exFd S S3 := exW.at.exRd.exFd.trans u3
        rw [if_neg n2, bnd_e r1, A_entry_j84_e]
        by_cases d : q.1 = true
        · rw [if_pos d] at et0 u4 u6 u7
          obtain ⟨z1, z2⟩ := u9 d
          have hs3 : srx S3 t := hs.exa xF.exA
          have hh3 := p_here (N := N) hs3 u5 (by omega)
          have v21 : S3 0 21 = S 0 21 := by rw [u7, a21, Int.add_zero]
          rw [et0, if_pos (show ((2 : Int), q.2.2, adf x q.2.1 q.2.2.1).1 = 2 from rfl), if_pos u6, bnd_e hh3]
          show ∃ S' T' n', (if hr t (q.2.2.2.1 6) = 125 then _ else _) = _ ∧ enK S S' T T' t (s.2.1 6) (s.2.1 5) x (tec t (tel t W Y p m false (q.2.2, adf x q.2.1 q.2.2.1)))
          by_cases g : tg t (q.2.2.2.1 6) = 125
          · have hing := tg_lt g (by decide)
            rw [if_pos ((hr_eq (by decide)).mpr g), A_entry_j104_e, A_entry_j105_e, en]
            obtain ⟨m', em⟩ : ∃ m', m = m' + 1 := ⟨m - 1, by omega⟩
            have f3 : tsk t 44 (q.2.2.2.1 6) = (false, q.2.2.2.1 6) := by rw [tsk_n (by rw [z2, g]; decide), z2]
            have f4 : tsk t 125 (q.2.2.2.1 6) = (true, q.2.2.2.1 6 + 1) := by rw [tsk_y (by rw [z2]; exact g), z2]
            have g2 : te1 t W Y p (q.2.2, adf x q.2.1 q.2.2.1) = (0, (q.2.2.1, sgV t 44 q.2.2.2.1, q.2.2.2.2), adf x q.2.1 q.2.2.1) := if_neg (by show ¬ (tsk t 44 (q.2.2.2.1 6)).1 = true; rw [f3]; exact fun z => Bool.noConfusion z)
            have g3 : tel t W Y p m false (q.2.2, adf x q.2.1 q.2.2.1) = (0, (q.2.2.1, sgV t 44 q.2.2.2.1, q.2.2.2.2), adf x q.2.1 q.2.2.1) := by
              rw [em]
              show (if (te1 t W Y p (q.2.2, adf x q.2.1 q.2.2.1)).1 = 2 then tel t W Y p m' false (te1 t W Y p (q.2.2, adf x q.2.1 q.2.2.1)).2 else te1 t W Y p (q.2.2, adf x q.2.1 q.2.2.1)) = _
              rw [g2, if_neg (show ¬ ((0 : Int), (q.2.2.1, sgV t 44 q.2.2.2.1, q.2.2.2.2), adf x q.2.1 q.2.2.1).1 = 2 from (by decide : ¬ (0 : Int) = 2))]
            have k44 : sgV t 44 q.2.2.2.1 6 = q.2.2.2.1 6 := by rw [sg6, f3]
            have k125 : sgV t 125 (sgV t 44 q.2.2.2.1) 6 = q.2.2.2.1 6 + 1 := by rw [sg6, k44, f4]
            have g4 : tec t (0, (q.2.2.1, sgV t 44 q.2.2.2.1, q.2.2.2.2), adf x q.2.1 q.2.2.1) = (true, (q.2.2.1, sgV t 125 (sgV t 44 q.2.2.2.1), q.2.2.2.2), adf x q.2.1 q.2.2.1) := (if_neg (show ¬ (0 : Int) = 3 by decide)).trans ((if_neg (show ¬ (0 : Int) = 1 by decide)).trans (by
              show ((tsk t 125 (sgV t 44 q.2.2.2.1 6)).1, (q.2.2.1, sgV t 125 (sgV t 44 q.2.2.2.1), q.2.2.2.2), adf x q.2.1 q.2.2.1) = _
              rw [k44, f4]))
            rw [g3, g4]
            refine ⟨S3, T3, n', rfl, u1, u2, xF, ?_, adf_1, ?_, Or.inr ⟨u6, u4, v21, ?_, ?_, z1⟩⟩
            · show s.2.1 6 ≤ sgV t 125 (sgV t 44 q.2.2.2.1) 6 ∧ sgV t 125 (sgV t 44 q.2.2.2.1) 6 ≤ (t.length : Int)
              rw [k125]
              omega
            · show sgV t 125 (sgV t 44 q.2.2.2.1) 5 = s.2.1 5
              rw [sg5, sg5, w5]
            · omega
            · show tsk t 125 (S3 0 17) = (true, sgV t 125 (sgV t 44 q.2.2.2.1) 6)
              rw [u5, f4, k125]
          · rw [if_neg (fun z => g ((hr_eq (by decide)).mp z)), A_entry_j105_e]
            obtain ⟨S4, T4, n4, i1, i2⟩ := p_enl (N := N) hN (t := t) (W := W) (Y := Y) (p := p) (ty := ty) (key := key) m n S3 T3 q.2.2 (adf x q.2.1 q.2.2.1) u1 hs3 (by rw [w5]; exact hst.exf xF u2) u4 u5 (by omega) u6 (by omega) z1 (by omega) (by omega)
            rw [w5] at i2
            exact ⟨S4, T4, n4, i1, i2.after u2 xF (by omega) rfl rfl v21⟩
        · rw [if_neg d] at et0 u4 u6 u7
          rw [et0, if_neg (show ¬ ((3 : Int), q.2.2, x).1 = 2 from (by decide : ¬ (3 : Int) = 2)), if_neg (show ¬ S3 0 18 = 0 by omega), A_entry_j104_e, A_entry_j105_e, en]
          have g4 : tec t (3, q.2.2, x) = (false, q.2.2, x) := if_pos rfl
          rw [g4]
          refine ⟨S3, T3, n', rfl, u1, u2, xF, ?_, ⟨rfl, rfl⟩, w5, Or.inl ⟨u6, rfl, u4, u5, by rw [u7, a21]⟩⟩
          show s.2.1 6 ≤ q.2.2.2.1 6 ∧ q.2.2.2.1 6 ≤ (t.length : Int)
          omega
    · have n1 : ¬ hr t (pb t (s.2.1 6)) = 44 := fun z => c1 ((hr_eq (by decide)).mp z)
      have f1 := tsk_n c1
      have et : te1 t W Y p (s, x) = (0, (s.1, sgV t 44 s.2.1, s.2.2), x) := if_neg (by show ¬ (tsk t 44 (s.2.1 6)).1 = true; rw [f1]; exact fun z => Bool.noConfusion z)
      have g6 : sgV t 44 s.2.1 6 = pb t (s.2.1 6) := by rw [sg6, f1]
      have k6 : sgV t 125 (sgV t 44 s.2.1) 6 = (tsk t 125 (pb t (s.2.1 6))).2 := by rw [sg6, g6]
      have hr6 := tsk_rng (t := t) (c := 125) (i := pb t (s.2.1 6)) (by omega) (by decide)
      rw [et, if_neg (show ¬ ((0 : Int), (s.1, sgV t 44 s.2.1, s.2.2), x).1 = 2 from (by decide : ¬ (0 : Int) = 2)), if_neg n1, if_pos rfl, en]
      have g4 : tec t (0, (s.1, sgV t 44 s.2.1, s.2.2), x) = ((tsk t 125 (pb t (s.2.1 6))).1, (s.1, sgV t 125 (sgV t 44 s.2.1), s.2.2), x) := (if_neg (show ¬ (0 : Int) = 3 by decide)).trans ((if_neg (show ¬ (0 : Int) = 1 by decide)).trans (by
        show ((tsk t 125 (sgV t 44 s.2.1 6)).1, (s.1, sgV t 125 (sgV t 44 s.2.1), s.2.2), x) = _
        rw [g6]))
      rw [g4]
      refine ⟨_, T, n', rfl, htx _, fF.refl T, exW.at.exRd.exFd, ?_, ⟨rfl, rfl⟩, ?_, Or.inr ⟨a18 _, hw.exw exW.at, a21 _, ?_, ?_, hx.exr exW.at.exRd (fun _ _ => rfl)⟩⟩
      · show s.2.1 6 ≤ sgV t 125 (sgV t 44 s.2.1) 6 ∧ sgV t 125 (sgV t 44 s.2.1) 6 ≤ (t.length : Int)
        rw [k6]
        omega
      · show sgV t 125 (sgV t 44 s.2.1) 5 = s.2.1 5
        rw [sg5, sg5]
      · rw [m_s_s]
        omega
      · show tsk t 125 (m_s S 0 17 (pb t (s.2.1 6)) 0 17) = ((tsk t 125 (pb t (s.2.1 6))).1, sgV t 125 (sgV t 44 s.2.1) 6)
        rw [m_s_s, k6]
