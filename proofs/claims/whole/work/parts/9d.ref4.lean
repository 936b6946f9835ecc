/-! Words as lists of characters; the reference's entries. -/
theorem wnum_inj : ∀ (a b : List Int), (∀ d ∈ a, 0 < d ∧ d < 128) → (∀ d ∈ b, 0 < d ∧ d < 128) → wnum a = wnum b → a = b
  | [], b, ha, hb, e => ((wnum_0 b hb).1.mp e.symm).symm
  | a :: as, [], ha, hb, e => absurd ((wnum_0 (a :: as) ha).1.mp e) (by intro q; cases q)
  | a :: as, b :: bs, ha, hb, e => by
    obtain ⟨a1, a2⟩ := wnum_div (ds := as) (ha a List.mem_cons_self)
    obtain ⟨b1, b2⟩ := wnum_div (ds := bs) (hb b List.mem_cons_self)
    rw [e] at a1 a2
    rw [a2.symm.trans b2, wnum_inj as bs (fun d hd => ha d (List.mem_cons_of_mem _ hd)) (fun d hd => hb d (List.mem_cons_of_mem _ hd)) (a1.symm.trans b1)]
def wdk (w : Int) : Prop := ∃ ds : List Int, ds ≠ [] ∧ (∀ d ∈ ds, (0 < d ∧ d < 128) ∧ p_wc d = true) ∧ w = wnum ds
theorem wdk.ne {w : Int} (h : wdk w) : w ≠ 0 := by
  obtain ⟨ds, h1, h2, h3⟩ := h
  intro e
  exact h1 ((wnum_0 ds (fun d hd => (h2 d hd).1)).1.mp (h3.symm.trans e))
theorem mw_no {x : Int} (h : wof x = 0) : ¬ wdk (mwof x) := by
  intro q
  have hn := q.ne
  obtain ⟨ds, h1, h2, h3⟩ := q
  have e := wnum_inj (wls x 8 0) ds (wls_ok 8 0) (fun d hd => (h2 d hd).1) ((mwof_num x).symm.trans h3)
  have hg : gdd (mwof x) = true := by
    rw [gdd_mw, decide_eq_true hn, Bool.true_and, e]
    exact List.all_eq_true.mpr (fun d hd => (h2 d hd).2)
  exact (gdd_iff x).mp hg h
theorem mw_yes {x : Int} (h : wof x ≠ 0) : mwof x = wof x := by
  rw [wof_mw, if_pos ((gdd_iff x).mpr h)]
/-- the characters from i on -/
def dls (t : List Int) : Nat → Int → List Int
  | 0, _ => []
  | m + 1, i => tg t i :: dls t m (i + 1)
theorem dls_mem {t : List Int} {P : Int → Prop} : ∀ (m : Nat) (i : Int), (∀ j : Int, i ≤ j → j < i + m → P (tg t j)) → ∀ c ∈ dls t m i, P c
  | 0, i, h, c, hc => by cases hc
  | m + 1, i, h, c, hc => by
    rcases List.mem_cons.mp hc with e | e
    · rw [e]
      exact h i (Int.le_refl _) (by omega)
    · exact dls_mem m (i + 1) (fun j j0 j1 => h j (by omega) (by omega)) c e
theorem ast_num {t : List Int} : ∀ (m : Nat) (i s : Int), 0 ≤ i → (it (ast_ t) m i (0, s)).2 = if (dls t m i).all p_wc = true then s + wnum ((dls t m i).map p_low) * pow8 i else 0
  | 0, i, s, h => by
    show s = if (true : Bool) = true then s + 0 * pow8 i else 0
    rw [if_pos rfl]
    omega
  | m + 1, i, s, h => by
    show (it (ast_ t) m (i + 1) (ast_ t i (0, s))).2 = if (p_wc (tg t i) && (dls t m (i + 1)).all p_wc) = true then s + (p_low (tg t i) + 256 * wnum ((dls t m (i + 1)).map p_low)) * pow8 i else 0
    by_cases e : p_wc (tg t i) = true
    · rw [show ast_ t i (0, s) = (0, s + p_low (tg t i) * pow8 i) from (if_pos rfl).trans (if_pos e), ast_num m (i + 1) _ (by omega), e, Bool.true_and, pow8_succ h]
      split
      · rw [Int.add_mul, Int.mul_comm 256 (wnum _), Int.mul_assoc (wnum _) 256 (pow8 i)]
        omega
      · rfl
    · rw [show ast_ t i (0, s) = (2, 0) from (if_pos rfl).trans (if_neg e), it_abs (ast_ t) (s := ((2 : Int), (0 : Int))) (fun j => if_neg (by decide : ¬ (2 : Int) = 0)), if_neg (by rw [Bool.not_eq_true] at e; rw [e, Bool.false_and]; decide)]
/-- what the reference makes of a crossref's text -/
def xrR (t : List Int) : Int := if 8 < t.length then 0 else wnum ((dls t t.length 0).map p_low)
theorem prt_prn {t : List Int} (h : prt t) {i : Int} (hi : 0 ≤ i ∧ i < (t.length : Int)) : p_prn (tg t i) = true := decide_eq_true (h i hi.1 hi.2)
theorem map_ok {t : List Int} (h : prt t) (m : Nat) (i : Int) (h0 : 0 ≤ i) (h1 : i + m ≤ (t.length : Int)) : ∀ d ∈ (dls t m i).map p_low, 0 < d ∧ d < 128 := by
  intro d hd
  obtain ⟨c, hc, e⟩ := List.mem_map.mp hd
  rw [← e]
  exact dls_mem (P := fun c => 0 < p_low c ∧ p_low c < 128) m i (fun j j0 j1 => p_prn_low (prt_prn h ⟨by omega, by omega⟩)) c hc
theorem xr_iff {t : List Int} {v : Int} (hp : prt t) (hv : wdk v) : xrR t = v ↔ aof t = v := by
  have hn := hv.ne
  unfold xrR aof
  by_cases e : 8 < t.length
  · rw [if_pos e, if_pos e]
  · rw [if_neg e, if_neg e, ast_num _ 0 0 (by omega), show ((t.length : Int) - 0).toNat = t.length by omega, show pow8 0 = 1 from rfl]
    by_cases q : (dls t t.length 0).all p_wc = true
    · rw [if_pos q]
      omega
    · rw [if_neg q]
      constructor
      · intro z
        obtain ⟨ds, h1, h2, h3⟩ := hv
        have e2 := wnum_inj _ ds (map_ok hp t.length 0 (by omega) (by omega)) (fun d hd => (h2 d hd).1) (z.trans h3)
        refine absurd (List.all_eq_true.mpr (fun c hc => ?_)) q
        have := (h2 (p_low c) (by rw [← e2]; exact List.mem_map_of_mem hc)).2
        rw [p_wc_low] at this
        exact this
      · intro z
        exact absurd z.symm hn
def dst_ (W : Int → Int) (n : Int) : Prop := ∀ i j : Int, 0 ≤ i → i < n → 0 ≤ j → j < n → W i = W j → i = j
def xrf (e : sen) : Int := if fx e.2.1 e.1.2.2.2 xref < 0 then 0 else aof (e.2.2.1 (fx e.2.1 e.1.2.2.2 xref))
/-- an entry of the class is one of the reference -/
def enr (S : s_M) (T : Int → List Int) (e : Int) (x : sen) : Prop := S 5 e = x.1.1 ∧ S 6 e = x.1.2.1 ∧ S 7 e = x.1.2.2.2 ∧ (0 ≤ x.1.2.2.2 ∧ x.1.2.2.2 ≤ 6) ∧ (∀ f : Int, 0 ≤ f → f < x.1.2.2.2 → S 8 (6 * e + f) = x.2.1 f ∧ T (6 * e + f) = x.2.2.1 f ∧ prt (x.2.2.1 f) ∧ wdk (x.2.1 f) ∧ (x.2.2.1 f).length ≤ 60) ∧ dst_ x.2.1 x.1.2.2.2 ∧ x.1.2.2.1 = xrf x ∧ wdk x.1.1 ∧ rL x.1.1 ∧ rL x.1.2.1
def EX (S : s_M) (T : Int → List Int) (E : Int → sen) (ns : Int) : Prop := S 0 6 = ns ∧ (0 ≤ ns ∧ ns ≤ 8) ∧ (∀ e : Int, 0 ≤ e → e < ns → enr S T e (E e)) ∧ dst_ (kE E) ns
theorem enr.ex {S S' : s_M} {T T' : Int → List Int} {e : Int} {x : sen} (h : enr S T e x) (e5 : S' 5 e = S 5 e) (e6 : S' 6 e = S 6 e) (e7 : S' 7 e = S 7 e) (e8 : ∀ j, S' 8 j = S 8 j) (eT : ∀ f, 0 ≤ f → f < 6 → T' (6 * e + f) = T (6 * e + f)) : enr S' T' e x := by
  obtain ⟨a1, a2, a3, a4, a5, a6⟩ := h
  refine ⟨e5.trans a1, e6.trans a2, e7.trans a3, a4, fun f f0 f1 => ?_, a6⟩
  obtain ⟨b1, b2, b3⟩ := a5 f f0 f1
  exact ⟨(e8 _).trans b1, (eT f f0 (by omega)).trans b2, b3⟩
theorem EX.ex {S S' : s_M} {T T' : Int → List Int} {E : Int → sen} {ns : Int} (h : EX S T E ns) (he : exK S S') (eT : ∀ q, q < 70 → T' q = T q) : EX S' T' E ns := by
  obtain ⟨a1, a2, a3, a4⟩ := h
  have hh : ∀ q j : Int, q ≠ 0 → q = 5 ∨ q = 6 ∨ q = 7 ∨ q = 8 → S' q j = S q j := fun q j h0 hq => he q j (by omega) (by omega) (by omega) (by omega) (by omega) (fun z => h0 z.1)
  exact ⟨(he 0 6 (by decide) (by decide) (by decide) (by decide) (by decide) (fun z => absurd z.2 (by decide))).trans a1, a2, fun e e0 e1 => (a3 e e0 e1).ex (hh 5 e (by decide) (by omega)) (hh 6 e (by decide) (by omega)) (hh 7 e (by decide) (by omega)) (fun j => hh 8 j (by decide) (by omega)) (fun f f0 f1 => eT _ (by omega)), a4⟩
def lxo (W : Int → Int) (w e : Int) : Nat → Int → Int → Int
  | 0, _, g => g
  | m + 1, f, g => lxo W w e m (f + 1) (if W f = w then 6 * e + f else g)
theorem lxo_fi {W : Int → Int} {w e n : Int} (hd : dst_ W n) : ∀ (m : Nat) (f g : Int), 0 ≤ f → f + m = n → lxo W w e m f g = if fi W w m f < 0 then g else 6 * e + fi W w m f
  | 0, f, g, h0, h1 => by
    show g = if (-1 : Int) < 0 then g else _
    rw [if_pos (by decide)]
  | m + 1, f, g, h0, h1 => by
    show lxo W w e m (f + 1) (if W f = w then 6 * e + f else g) = if (if W f = w then f else fi W w m (f + 1)) < 0 then g else 6 * e + (if W f = w then f else fi W w m (f + 1))
    rw [lxo_fi hd m (f + 1) _ (by omega) (by omega)]
    by_cases q : W f = w
    · rw [if_pos q, if_pos q, if_neg (show ¬ f < 0 by omega)]
      rcases fi_rng (W := W) (w := w) m (f + 1) with r | ⟨r1, r2, r3⟩
      · rw [if_pos (by omega)]
      · have := hd f (fi W w m (f + 1)) h0 (by omega) (by omega) (by omega) (q.trans r3.symm)
        omega
    · rw [if_neg q, if_neg q]
theorem p_ownl {N : Nat} {S : s_M} {T : Int → List Int} {e w : Int} {x : sen} (he : 0 ≤ e ∧ e < 8) (h : enr S T e x) : ∀ (m n : Nat) (f g : Int), 0 ≤ f → f + m = x.1.2.2.2 → m < n → A_own_l6 N n e w g f S = some (lxo x.2.1 w e m f g, S)
  | m, 0, f, g, h0, h1, h2 => absurd h2 (Nat.not_lt_zero _)
  | 0, n + 1, f, g, h0, h1, h2 => by
    have h7 := h.2.2.1
    rw [A_own_l6_e, chk_e (by omega), if_neg (by omega)]
    rfl
  | m + 1, n + 1, f, g, h0, h1, h2 => by
    have h7 := h.2.2.1
    have hc := h.2.2.2.1
    have hw := (h.2.2.2.2.1 f h0 (by omega)).1
    rw [A_own_l6_e, chk_e (by omega), if_pos (by omega), chk_e (by omega), chk_e (by omega), chk_e (by omega), hw]
    show _ = some (lxo x.2.1 w e m (f + 1) (if x.2.1 f = w then 6 * e + f else g), S)
    by_cases q : x.2.1 f = w
    · rw [if_pos q, if_pos q, chk_e (by omega), chk_e (by omega), A_own_j46_e, chk_e (by omega)]
      exact p_ownl he h m n (f + 1) _ (by omega) (by omega) (by omega)
    · rw [if_neg q, if_neg q, A_own_j46_e, chk_e (by omega)]
      exact p_ownl he h m n (f + 1) _ (by omega) (by omega) (by omega)
theorem p_own {N : Nat} (hN : 100 ≤ N) {S : s_M} {T : Int → List Int} {e w : Int} {x : sen} (he : 0 ≤ e ∧ e < 8) (h : enr S T e x) : A_own N e w S = some (if fx x.2.1 x.1.2.2.2 w < 0 then -1 else 6 * e + fx x.2.1 x.1.2.2.2 w, S) := by
  have hc := h.2.2.2.1
  rw [A_own_e, p_ownl he h x.1.2.2.2.toNat N 0 (-1) (by omega) (by omega) (by omega), lxo_fi h.2.2.2.2.2.1 _ 0 (-1) (by omega) (by omega)]
  unfold fx
  rw [show (x.1.2.2.2 - 0).toNat = x.1.2.2.2.toNat by omega]
def lxk (W : Int → Int) (w : Int) : Nat → Int → Int → Int
  | 0, _, g => g
  | m + 1, f, g => lxk W w m (f + 1) (if W f = w then f else g)
theorem lxk_fi {W : Int → Int} {w n : Int} (hd : dst_ W n) : ∀ (m : Nat) (f g : Int), 0 ≤ f → f + m = n → lxk W w m f g = if fi W w m f < 0 then g else fi W w m f
  | 0, f, g, h0, h1 => by
    show g = if (-1 : Int) < 0 then g else _
    rw [if_pos (by decide)]
  | m + 1, f, g, h0, h1 => by
    show lxk W w m (f + 1) (if W f = w then f else g) = if (if W f = w then f else fi W w m (f + 1)) < 0 then g else (if W f = w then f else fi W w m (f + 1))
    rw [lxk_fi hd m (f + 1) _ (by omega) (by omega)]
    by_cases q : W f = w
    · rw [if_pos q, if_pos q, if_neg (show ¬ f < 0 by omega)]
      rcases fi_rng (W := W) (w := w) m (f + 1) with r | ⟨r1, r2, r3⟩
      · rw [if_pos (by omega)]
      · have := hd f (fi W w m (f + 1)) h0 (by omega) (by omega) (by omega) (q.trans r3.symm)
        omega
    · rw [if_neg q, if_neg q]
theorem p_fkl {N : Nat} {S : s_M} {W : Int → Int} {w ns : Int} (h6 : S 0 6 = ns) (h8 : 0 ≤ ns ∧ ns ≤ 8) (hW : ∀ e, 0 ≤ e → e < ns → S 5 e = W e) : ∀ (m n : Nat) (f g : Int), 0 ≤ f → f + m = ns → m < n → A_findKey_l5 N n w g f S = some (lxk W w m f g, S)
  | m, 0, f, g, h0, h1, h2 => absurd h2 (Nat.not_lt_zero _)
  | 0, n + 1, f, g, h0, h1, h2 => by
    rw [A_findKey_l5_e, if_neg (by omega)]
    rfl
  | m + 1, n + 1, f, g, h0, h1, h2 => by
    rw [A_findKey_l5_e, if_pos (by omega), chk_e (by omega), chk_e (by omega), hW f h0 (by omega)]
    exact p_fkl h6 h8 hW m n (f + 1) _ (by omega) (by omega) (by omega)
theorem p_findKey {N : Nat} (hN : 100 ≤ N) {S : s_M} {T : Int → List Int} {E : Int → sen} {ns w : Int} (h : EX S T E ns) : A_findKey N w S = some (fx (kE E) ns w, S) := by
  obtain ⟨h6, h8, hE, hd⟩ := h
  rw [A_findKey_e, p_fkl (W := kE E) h6 h8 (fun e e0 e1 => (hE e e0 e1).1) ns.toNat N 0 (-1) (by omega) (by omega) (by omega), lxk_fi hd _ 0 (-1) (by omega) (by omega)]
  unfold fx
  rw [show (ns - 0).toNat = ns.toNat by omega]
  rcases fi_rng (W := kE E) (w := w) ns.toNat 0 with r | r
  · rw [if_pos (by omega), r]
  · rw [if_neg (by omega)]
theorem l_orrs {v c k : Int} (hv : 0 ≤ v ∧ 2 * v < pow8 k) (hc : 0 ≤ c ∧ c < 128) (hk : 0 ≤ k ∧ k < 8) : l_orr v (l_shf c (8 * k)) = v + c * pow8 k := by
  have hp := pow8_pos k
  have h1 := pw_half hv hc hk.1
  have h2 := pow8_le8 (8 - (k + 1)).toNat (k + 1) (by omega) (by omega)
  have h0 : 0 ≤ c * pow8 k := Int.mul_nonneg hc.1 (by omega)
  have e1 : l_shf c (8 * k) = c * pow8 k := by
    unfold l_shf
    rw [l_shl hc.1 hk]
    exact Int64.toInt_ofInt_of_le (by omega) (by omega)
  unfold l_orr
  rw [e1, l_or (by omega) (by omega) hk]
  exact Int64.toInt_ofInt_of_le (by omega) (by omega)
theorem p_packl {N : Nat} {S : s_M} {T : Int → List Int} (h : TX S T) {a : Int} (ha : 0 ≤ a ∧ a < 85) (hp : prt (T a)) (hl : (T a).length ≤ 8) : ∀ (m n : Nat) (k v : Int), 0 ≤ k → k + m = ((T a).length : Int) → 0 ≤ v ∧ 2 * v < pow8 k → m < n → A_packed_l5 N n a v k S = some (v + wnum ((dls (T a) m k).map p_low) * pow8 k, S)
  | m, 0, k, v, h0, h1, hv, h2 => absurd h2 (Nat.not_lt_zero _)
  | 0, n + 1, k, v, h0, h1, hv, h2 => by
    have hs := h.len ha
    rw [A_packed_l5_e, chk_e ha, if_neg (by omega), A_packed_j53_e]
    show some (v, S) = some (v + 0 * pow8 k, S)
    rw [show v + 0 * pow8 k = v by omega]
  | m + 1, n + 1, k, v, h0, h1, hv, h2 => by
    have hs := h.len ha
    have hc := p_prn_low (prt_prn hp (i := k) ⟨h0, by omega⟩)
    rw [A_packed_l5_e, chk_e ha, if_pos (by omega), chk_e ha, if_pos (by omega), bnd_e (p_att h ha ⟨h0, by omega⟩), chk_e (by omega), chk_e (by omega), l_orrs hv (by omega) (by omega)]
    rw [p_packl h ha hp hl m n (k + 1) _ (by omega) (by omega) (pw_half hv (by omega) h0) (by omega), pow8_succ h0]
    show _ = some (v + (p_low (tg (T a) k) + 256 * wnum ((dls (T a) m (k + 1)).map p_low)) * pow8 k, S)
    congr 2
    rw [Int.add_mul, Int.mul_comm 256 (wnum _), Int.mul_assoc (wnum _) 256 (pow8 k)]
    omega
theorem p_packed {N : Nat} (hN : 100 ≤ N) {S : s_M} {T : Int → List Int} (h : TX S T) {a : Int} (ha : 0 ≤ a ∧ a < 85) (hp : prt (T a)) : A_packed N a S = some (xrR (T a), S) := by
  have hs := h.len ha
  unfold xrR
  by_cases e : 8 < (T a).length
  · obtain ⟨n', rfl⟩ : ∃ n', N = n' + 1 := ⟨N - 1, by omega⟩
    rw [A_packed_e, A_packed_l5_e, chk_e ha, if_pos (by omega), chk_e ha, if_neg (by omega), A_packed_j53_e, if_pos e]
  · rw [A_packed_e, p_packl h ha hp (by omega) (T a).length N 0 0 (by omega) (by omega) ⟨by decide, by decide +kernel⟩ (by omega), if_neg e, show pow8 0 = 1 from rfl]
    congr 2
    omega
def rfR (e : sen) : Int := if fx e.2.1 e.1.2.2.2 xref < 0 then 0 else xrR (e.2.2.1 (fx e.2.1 e.1.2.2.2 xref))
theorem p_refers {N : Nat} (hN : 100 ≤ N) {S : s_M} {T : Int → List Int} (ht : TX S T) {e : Int} {x : sen} (he : 0 ≤ e ∧ e < 8) (h : enr S T e x) : A_refers N e S = some (rfR x, S) := by
  have hc := h.2.2.2.1
  have ho := p_own (N := N) (w := xref) hN he h
  unfold rfR
  rcases fx_rng (W := x.2.1) (n := x.1.2.2.2) (w := xref) hc.1 with r | ⟨r1, r2, r3⟩
  · rw [A_refers_e, bnd_e ho, if_pos (show fx x.2.1 x.1.2.2.2 xref < 0 by omega), if_pos (by decide), A_refers_j22_e, if_pos (show fx x.2.1 x.1.2.2.2 xref < 0 by omega)]
  · obtain ⟨b1, b2, b3, b4, b5⟩ := h.2.2.2.2.1 (fx x.2.1 x.1.2.2.2 xref) r1 r2
    have hp := p_packed (N := N) hN ht (a := 6 * e + fx x.2.1 x.1.2.2.2 xref) (by omega) (by rw [b2]; exact b3)
    rw [b2] at hp
    rw [A_refers_e, bnd_e ho, if_neg (show ¬ fx x.2.1 x.1.2.2.2 xref < 0 by omega), if_neg (by omega), bnd_e hp, A_refers_j22_e, if_neg (show ¬ fx x.2.1 x.1.2.2.2 xref < 0 by omega)]
theorem rf_iff {S : s_M} {T : Int → List Int} {e v : Int} {x : sen} (h : enr S T e x) (hv : wdk v) : rfR x = v ↔ x.1.2.2.1 = v := by
  have hc := h.2.2.2.1
  rw [h.2.2.2.2.2.2.1]
  unfold rfR xrf
  rcases fx_rng (W := x.2.1) (n := x.1.2.2.2) (w := xref) hc.1 with r | ⟨r1, r2, r3⟩
  · rw [if_pos (by omega), if_pos (by omega)]
  · rw [if_neg (by omega), if_neg (by omega)]
    exact xr_iff (h.2.2.2.2.1 _ r1 r2).2.2.1 hv
theorem fi_none {W : Int → Int} {w : Int} : ∀ (m : Nat) (i : Int), (∀ j : Int, i ≤ j → j < i + m → W j ≠ w) → fi W w m i = -1
  | 0, i, h => rfl
  | m + 1, i, h => by
    show (if W i = w then i else fi W w m (i + 1)) = -1
    rw [if_neg (h i (Int.le_refl _) (by omega))]
    exact fi_none m (i + 1) (fun j j0 j1 => h j (by omega) (by omega))
theorem fi_congr {W : Int → Int} {v w : Int} : ∀ (m : Nat) (i : Int), (∀ j : Int, i ≤ j → j < i + m → (W j = v ↔ W j = w)) → fi W v m i = fi W w m i
  | 0, i, h => rfl
  | m + 1, i, h => by
    show (if W i = v then i else fi W v m (i + 1)) = (if W i = w then i else fi W w m (i + 1))
    have h1 := h i (Int.le_refl _) (by omega)
    rw [fi_congr m (i + 1) (fun j j0 j1 => h j (by omega) (by omega))]
    by_cases q : W i = v
    · rw [if_pos q, if_pos (h1.mp q)]
    · rw [if_neg q, if_neg (fun z => q (h1.mpr z))]
/-- where a field's text lies -/
def foR (E : Int → sen) (ns j v : Int) : Int := if (fo E ns j v).2 < 0 then -1 else 6 * (fo E ns j v).1 + (fo E ns j v).2
theorem p_fieldOf {N : Nat} (hN : 100 ≤ N) {S : s_M} {T : Int → List Int} {E : Int → sen} {ns j v w : Int} (ht : TX S T) (h : EX S T E ns) (hj : 0 ≤ j ∧ j < ns) (hv : (v = w ∧ v ≠ 0) ∨ (v = 0 ∧ ¬ wdk w)) : A_fieldOf N j w S = some (foR E ns j v, S) := by
  obtain ⟨h6, h8, hE, hd⟩ := id h
  have hen := hE j hj.1 hj.2
  have hfd : ∀ e, 0 ≤ e → e < ns → fx (E e).2.1 (E e).1.2.2.2 w = if v = 0 then -1 else fE E e v := fun e e0 e1 => by
    rcases hv with ⟨q1, q2⟩ | ⟨q1, q2⟩
    · rw [if_neg q2, ← q1]
      rfl
    · rw [if_pos q1]
      exact fi_none _ _ (fun f f0 f1 z => q2 (by rw [← z]; exact ((hE e e0 e1).2.2.2.2.1 f f0 (by have := (hE e e0 e1).2.2.2.1; omega)).2.2.2.1))
  have hwx : w = xref → v = xref := fun q => by
    rcases hv with ⟨q1, q2⟩ | ⟨q1, q2⟩
    · rw [q1, q]
    · refine absurd ?_ q2
      rw [q]
      exact ⟨[99, 114, 111, 115, 115, 114, 101, 102], by decide, by decide, by decide⟩
  have hfr := fx_rng (W := (E j).2.1) (n := (E j).1.2.2.2) (w := w) hen.2.2.2.1.1
  rw [A_fieldOf_e, bnd_e (p_own hN (by omega) hen)]
  by_cases e1 : fx (E j).2.1 (E j).1.2.2.2 w < 0
  · rw [if_pos e1, if_pos (by decide)]
    by_cases ex : w = xref
    · rw [if_pos ex, A_fieldOf_j21_e]
      have hvx := hwx ex
      have hv0 : v ≠ 0 := by rw [hvx]; decide
      have e2 : fE E j v < 0 := by
        have := hfd j hj.1 hj.2
        rw [if_neg hv0] at this
        omega
      have : fo E ns j v = (j, fE E j v) := (if_neg hv0).trans (if_pos (Or.inr hvx))
      unfold foR
      rw [this, if_pos e2]
    · rw [if_neg ex, bnd_e (p_refers hN ht (by omega) hen)]
      have hfin : ∀ g : Int, g = fx (kE E) ns (rfR (E j)) → A_fieldOf_j47 N w g S = some (foR E ns j v, S) := fun g hg => by
        have hck : fx (kE E) ns (rfR (E j)) = cE E ns j := by
          unfold cE fx
          refine fi_congr _ _ (fun e e0 e1 => ?_)
          have e2 : e < ns := by omega
          constructor
          · intro z
            exact ((rf_iff hen (hE e e0 e2).2.2.2.2.2.2.2.1).mp z.symm).symm
          · intro z
            exact ((rf_iff hen (hE e e0 e2).2.2.2.2.2.2.2.1).mpr z.symm).symm
        rw [hck] at hg
        have hgr := fx_rng (W := kE E) (n := ns) (w := (E j).1.2.2.1) h8.1
        have hcd : cE E ns j = fx (kE E) ns (E j).1.2.2.1 := rfl
        rw [A_fieldOf_j47_e]
        by_cases g0 : g < 0
        · rw [if_pos g0, A_fieldOf_j65_e]
          congr 2
          unfold foR
          by_cases v0 : v = 0
          · rw [show fo E ns j v = (j, -1) from if_pos v0, if_pos (by decide : (-1 : Int) < 0)]
          · have q2 := hfd j hj.1 hj.2
            rw [if_neg v0] at q2
            have vx : v ≠ xref := fun z => by
              rcases hv with ⟨q1, _⟩ | ⟨q1, _⟩
              · exact ex (by rw [← q1, z])
              · exact v0 q1
            rw [show fo E ns j v = (j, -1) from (if_neg v0).trans ((if_neg (fun z => z.elim (fun z => by omega) vx)).trans (if_neg (by omega))), if_pos (by decide : (-1 : Int) < 0)]
        · have gn : 0 ≤ g ∧ g < ns := by omega
          rw [if_neg g0, bnd_e (p_own hN (by omega) (hE g gn.1 gn.2)), A_fieldOf_j65_e]
          congr 2
          have q3 := hfd g gn.1 gn.2
          unfold foR
          by_cases v0 : v = 0
          · rw [if_pos v0] at q3
            rw [show fo E ns j v = (j, -1) from if_pos v0, if_pos (by decide : (-1 : Int) < 0), if_pos (by omega)]
          · rw [if_neg v0] at q3
            have q2 := hfd j hj.1 hj.2
            rw [if_neg v0] at q2
            have vx : v ≠ xref := fun z => by
              rcases hv with ⟨q1, _⟩ | ⟨q1, _⟩
              · exact ex (by rw [← q1, z])
              · exact v0 q1
            rw [show fo E ns j v = (g, fE E g v) from (if_neg v0).trans ((if_neg (fun z => z.elim (fun z => by omega) vx)).trans ((if_pos (by omega)).trans (by rw [← hg]))), q3]
      by_cases r0 : rfR (E j) = 0
      · rw [if_pos r0]
        refine hfin (-1) ?_
        rw [r0]
        exact (fi_none _ _ (fun e e0 e1 => ((hE e e0 (by omega)).2.2.2.2.2.2.2.1).ne)).symm
      · rw [if_neg r0, bnd_e (p_refers hN ht (by omega) hen), bnd_e (p_findKey hN h)]
        exact hfin _ rfl
  · rw [if_neg e1, if_neg (by omega), A_fieldOf_j21_e]
    have q2 := hfd j hj.1 hj.2
    have v0 : v ≠ 0 := fun z => by rw [if_pos z] at q2; omega
    rw [if_neg v0] at q2
    unfold foR
    rw [show fo E ns j v = (j, fE E j v) from (if_neg v0).trans (if_pos (Or.inl (by omega))), if_neg (show ¬ fE E j v < 0 by omega), q2]
