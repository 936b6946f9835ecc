theorem p_l198 {N : Nat} (hN : 1000 ≤ N) {n cnt : Int} (hn : 0 ≤ n ∧ n < 8) (hc : cnt ≤ 6) : ∀ (m k : Nat) (f : Int) (S : s_M) (T : Int → List Int), TX S T → S 7 8 = cnt → S 0 6 = n → 0 ≤ f → f + m = cnt → m < k → ∃ S' T', A_entry_l198 N k f S = some (0, m_s S' 0 6 (n + 1)) ∧ TX S' T' ∧ (∀ g : Int, f ≤ g → g < cnt → S' 8 (6 * n + g) = S 8 (48 + g) ∧ T' (6 * n + g) = T (48 + g)) ∧ (∀ q j : Int, q ≠ 3 → q ≠ 4 → ¬ (q = 8 ∧ 6 * n + f ≤ j ∧ j < 6 * n + 6) → S' q j = S q j) ∧ (∀ q : Int, ¬ (6 * n + f ≤ q ∧ q < 6 * n + 6) → T' q = T q)
  | m, 0, f, S, T, ht, h7, h6, h0, hm, hk => absurd hk (Nat.not_lt_zero _)
  | 0, k + 1, f, S, T, ht, h7, h6, h0, hm, hk => by
    refine ⟨S, T, ?_, ht, fun g g0 g1 => absurd g1 (by omega), fun _ _ _ _ _ => rfl, fun _ _ => rfl⟩
    rw [A_entry_l198_e, if_neg (by omega), h6, chk_e (by omega)]
  | m + 1, k + 1, f, S, T, ht, h7, h6, h0, hm, hk => by
    have ht1 : TX (m_s S 8 (6 * n + f) (S 8 (48 + f))) T := ht.ex (fun q j z => m_sk (by omega))
    obtain ⟨S1, d1, d2, d3⟩ := p_copy (N := N) (by omega) ht1 (a := 48 + f) (b := 6 * n + f) (by omega) (by omega)
    have e1 : ∀ q j : Int, q ≠ 3 → q ≠ 4 → ¬ (q = 8 ∧ j = 6 * n + f) → S1 q j = S q j := fun q j a b c => (d3 q j a b).trans (m_s_n c)
    obtain ⟨S2, T2, b1, b2, b3, b4, b5⟩ := p_l198 (N := N) hN hn hc m k (f + 1) S1 _ d2 ((e1 7 8 (by decide) (by decide) (by omega)).trans h7) ((e1 0 6 (by decide) (by decide) (by omega)).trans h6) (by omega) (by omega) (by omega)
    refine ⟨S2, T2, ?_, b2, fun g g0 g1 => ?_, fun q j q1 q2 z => (b4 q j q1 q2 (by omega)).trans (e1 q j q1 q2 (by omega)), fun q z => (b5 q (by omega)).trans (lset_ne (by omega))⟩
    · rw [A_entry_l198_e, if_pos (by omega), h6, chk_e (by omega), chk_e (by omega), chk_e (by omega), chk_e (by omega), chk_e (by omega), chk_e (by omega), chk_e (by omega), chk_e (by omega), bnd_e d1, chk_e (by omega)]
      exact b1
    · by_cases c : g = f
      · rw [c, b4 8 _ (by decide) (by decide) (by omega), b5 _ (by omega), d3 8 _ (by decide) (by decide), m_s_s, lset_at]
        exact ⟨rfl, rfl⟩
      · obtain ⟨z1, z2⟩ := b3 g (by omega) g1
        rw [z1, z2, e1 8 _ (by decide) (by decide) (by omega), lset_ne (by omega)]
        exact ⟨rfl, rfl⟩
theorem EX.cg {S : s_M} {T : Int → List Int} {E E' : Int → sen} {n : Int} (h : EX S T E n) (e : ∀ i : Int, 0 ≤ i → i < n → E' i = E i) : EX S T E' n := by
  obtain ⟨a1, a2, a3, a4⟩ := h
  refine ⟨a1, a2, fun k k0 k1 => by rw [e k k0 k1]; exact a3 k k0 k1, fun i j i0 i1 j0 j1 q => a4 i j i0 i1 j0 j1 ?_⟩
  have q1 : (E' i).1.1 = (E' j).1.1 := q
  rw [e i i0 i1, e j j0 j1] at q1
  exact q1
theorem eset_at {E : Int → sen} {n : Int} {x : sen} : eset E n x n = x := if_pos rfl
theorem eset_ne {E : Int → sen} {n i : Int} {x : sen} (h : i ≠ n) : eset E n x i = E i := if_neg h
theorem kE_eset {E : Int → sen} {n : Int} {x : sen} : kE (eset E n x) = rset (kE E) n x.1.1 := by
  funext i
  show (eset E n x i).1.1 = _
  by_cases c : i = n
  · rw [c, eset_at, rset_at]
  · rw [eset_ne c, rset_ne c]
theorem fF.fT {T T' : Int → List Int} (h : fF T T') : fT T T' := fun q a b => h q b (by omega)
theorem itK.s78 {S S' : s_M} {T T' : Int → List Int} {t : List Int} {a y : Int} {r : tiT} (h : itK S S' T T' t a r) : itK S (m_s S' 7 8 y) T T' t a r := by
  obtain ⟨h1, h2, h3, h4, h5, h6, h7, h8, h9⟩ := h
  have x : exFd S' (m_s S' 7 8 y) := fun q j _ _ _ _ e _ => m_s_n e
  exact ⟨h1.ex (fun q j z => m_sk (by omega)), h2.exf x (fF.refl _), h3.ex (fun j => m_sk (by decide)), h4.exf x (fF.refl _), (m_sk (by decide)).trans h5, (m_sk (by decide)).trans h6, h7.trans x.exA, h8, h9⟩
/-- the state behind an entry's closing brace -/
def enB (S S' : s_M) (T T' : Int → List Int) (W : Int → Int) (Y : Int → List Int) (nr : Int) (WN : Int → Int) (E : Int → sen) (n : Int) (x : sen) : Prop := TX S' T' ∧ sts S' T' W Y nr ∧ WX S' WN ∧ EX S' T' E n ∧ scr S' T' x ∧ S' 0 21 = S 0 21 ∧ exA S S' ∧ fT T T'
theorem enB.keep {N : Nat} (hN : 1000 ≤ N) {t : List Int} {S S' : s_M} {T T' : Int → List Int} {W : Int → Int} {Y : Int → List Int} {nr : Int} {WN V' : Int → Int} {v' : List Int} {E : Int → sen} {n a key ty : Int} {x : sen} (h : enB S S' T T' W Y nr WN E n x) (h5 : V' 5 = nr) (h17 : S' 0 17 = V' 6) (hr : a ≤ V' 6 ∧ V' 6 ≤ (t.length : Int)) (hk : wdk key) (hkr : rL key) (hty : rL ty) (x1 : x.1.1 = key) (x2 : x.1.2.1 = ty) : ∃ S2 T2, (bnd (A_findKey N key S') fun v75 S76 => if v75 < 0 then (if (S76 0 6) = 8 then (A_entry_j141 N key S76) else (chk (0 ≤ (S76 0 6) ∧ (S76 0 6) < 9) <| chk (0 ≤ (S76 0 6) ∧ (S76 0 6) < 9) <| chk (0 ≤ (S76 0 6) ∧ (S76 0 6) < 9) <| A_entry_l198 N N 0 (m_s (m_s (m_s S76 5 (S76 0 6) key) 6 (S76 0 6) ty) 7 (S76 0 6) (S76 7 8)))) else (A_entry_j141 N key S76)) = some (0, S2) ∧ itK S S2 T T2 t a (true, (V', W, Y, v', kdW (eset E n x) n WN), eset E n x, kdn (eset E n x) n) := by
  obtain ⟨b1, b2, b3, b4, b5, b6, b7, b8⟩ := h
  have hn := b4.len
  have fk := p_findKey (N := N) (by omega) (w := key) b4
  have hfr := fx_rng (W := kE E) (n := n) (w := key) hn.1
  have fe : fx (kE (eset E n x)) n (eset E n x n).1.1 = fx (kE E) n key := by
    rw [eset_at, x1]
    exact fx_cg (fun j j0 j1 => by rw [kE_eset, rset_ne (by omega)])
  have ecg : ∀ i : Int, 0 ≤ i → i < n → eset E n x i = E i := fun i i0 i1 => eset_ne (by omega)
  rw [bnd_e fk, b4.1]
  unfold kdW kdn
  rw [fe]
  -- a warning and no more
  have wrn : ∀ i : Int, 0 ≤ i ∧ i < 10 → itK S (m_s S' 1 i (wi32 (S' 1 i + 1))) T T' t a (true, (V', W, Y, v', inc WN i), eset E n x, n) := fun i hi => by
    have x3 : exRd S' (m_s S' 1 i (wi32 (S' 1 i + 1))) := fun z j y1 y2 y3 y4 => m_sk y1
    refine ⟨b1.ex (fun z j y => m_sk (by omega)), ?_, ?_, (b4.exr x3 (fun _ _ => rfl)).cg ecg, (m_sk (by decide)).trans h17, ?_, b7.trans x3.exA, b8, hr⟩
    · show sts _ T' W Y (V' 5)
      rw [h5]
      exact b2.ex x3 (fun _ _ => rfl)
    · show WX _ (if true = true then inc WN i else _)
      rw [if_pos rfl]
      exact b3.bump hi
    · show m_s S' 1 i (wi32 (S' 1 i + 1)) 0 21 = S 0 21 + (if true = true then 0 else 1)
      rw [if_pos rfl, m_sk (by decide), b6, Int.add_zero]
  by_cases f : 0 ≤ fx (kE E) n key
  · rw [if_neg (by omega), if_pos f, if_pos f, A_entry_j141_e, bnd_e fk, if_neg (by omega), bnd_e (p_warn (by decide))]
    exact ⟨_, T', rfl, wrn 4 (by decide)⟩
  · rw [if_pos (by omega), if_neg f, if_neg f]
    by_cases g : n = 8
    · rw [if_pos g, if_pos (by omega), if_pos (by omega), A_entry_j141_e, bnd_e fk, if_pos (by omega), bnd_e (p_warn (by decide))]
      exact ⟨_, T', rfl, wrn 5 (by decide)⟩
    · rw [if_neg g, if_neg (by omega), if_neg (by omega), chk_e (by omega), chk_e (by omega), chk_e (by omega)]
      obtain ⟨Sx, hSx⟩ : ∃ Sx, Sx = m_s (m_s (m_s S' 5 n key) 6 n ty) 7 n (S' 7 8) := ⟨_, rfl⟩
      have ex : ∀ q j : Int, ¬ (5 ≤ q ∧ q ≤ 7 ∧ j = n) → Sx q j = S' q j := fun q j z => by
        rw [hSx, m_s_n (by omega), m_s_n (by omega), m_s_n (by omega)]
      have htx : TX Sx T' := b1.ex (fun q j z => ex q j (by omega))
      obtain ⟨c1, c2, c3, c4, c5⟩ := b5
      obtain ⟨S2, T2, d1, d2, d3, d4, d5⟩ := p_l198 (N := N) hN (n := n) (cnt := x.1.2.2.2) (by omega) c2.2 x.1.2.2.2.toNat N 0 Sx T' htx ((ex 7 8 (by omega)).trans c1) ((ex 0 6 (by omega)).trans b4.1) (by omega) (by omega) (by omega)
      rw [← hSx]
      have k2 : ∀ q j : Int, q ≠ 3 → q ≠ 4 → ¬ (5 ≤ q ∧ q ≤ 7 ∧ j = n) → ¬ (q = 8 ∧ 6 * n ≤ j ∧ j < 6 * n + 6) → ¬ (q = 0 ∧ j = 6) → m_s S2 0 6 (n + 1) q j = S' q j := fun q j y1 y2 y3 y4 y5 => by
        rw [m_s_n y5, d4 q j y1 y2 (by omega), ex q j y3]
      have kT : ∀ q : Int, ¬ (6 * n ≤ q ∧ q < 6 * n + 6) → T2 q = T' q := fun q z => d5 q (by omega)
      refine ⟨m_s S2 0 6 (n + 1), T2, d1, d2.ex (fun q j z => m_sk (by omega)), ?_, ?_, ?_, ?_, ?_, ?_, ?_, hr⟩
      · show sts _ T2 W Y (V' 5)
        rw [h5]
        obtain ⟨s1, s2, s3, s4⟩ := b2
        refine ⟨(k2 0 11 (by decide) (by decide) (by omega) (by omega) (by omega)).trans s1, s2, fun e e0 e1 => ?_, s4⟩
        obtain ⟨y1, y2, y3⟩ := s3 e e0 e1
        exact ⟨(k2 9 e (by decide) (by decide) (by omega) (by omega) (by omega)).trans y1, (kT _ (by omega)).trans y2, y3⟩
      · show WX _ (if true = true then WN else _)
        rw [if_pos rfl]
        exact b3.ex (fun j => k2 1 j (by decide) (by decide) (by omega) (by omega) (by omega))
      · have old : EX S' T' (eset E n x) n := b4.cg ecg
        obtain ⟨o1, o2, o3, o4⟩ := old
        show EX _ T2 (eset E n x) (n + 1)
        refine ⟨m_s_s, by omega, fun e e0 e1 => ?_, ?_⟩
        · by_cases c : e = n
          · rw [c, eset_at]
            have r5 : m_s S2 0 6 (n + 1) 5 n = key := by
              rw [m_sk (by decide), d4 5 n (by decide) (by decide) (by omega), hSx, m_sk (by decide), m_sk (by decide), m_s_s]
            have r6 : m_s S2 0 6 (n + 1) 6 n = ty := by
              rw [m_sk (by decide), d4 6 n (by decide) (by decide) (by omega), hSx, m_sk (by decide), m_s_s]
            have r7 : m_s S2 0 6 (n + 1) 7 n = x.1.2.2.2 := by
              rw [m_sk (by decide), d4 7 n (by decide) (by decide) (by omega), hSx, m_s_s, c1]
            refine ⟨r5.trans x1.symm, r6.trans x2.symm, r7, c2, fun f f0 f1 => ?_, c4, c5, by rw [x1]; exact hk, by rw [x1]; exact hkr, by rw [x2]; exact hty⟩
            obtain ⟨y1, y2, y3⟩ := c3 f f0 f1
            obtain ⟨z1, z2⟩ := d3 f f0 f1
            refine ⟨?_, z2.trans y2, y3⟩
            rw [m_sk (by decide), z1, ex 8 _ (by omega)]
            exact y1
          · exact (o3 e e0 (by omega)).exl (k2 5 e (by decide) (by decide) (by omega) (by omega) (by omega)) (k2 6 e (by decide) (by decide) (by omega) (by omega) (by omega)) (k2 7 e (by decide) (by decide) (by omega) (by omega) (by omega)) (fun f f0 f1 => k2 8 _ (by decide) (by decide) (by omega) (by omega) (by omega)) (fun f f0 f1 => kT _ (by omega))
        · rw [kE_eset, x1]
          exact dst_add b4.2.2.2 (fx_no (by omega))
      · exact (k2 0 17 (by decide) (by decide) (by omega) (by omega) (by omega)).trans h17
      · show m_s S2 0 6 (n + 1) 0 21 = S 0 21 + (if true = true then 0 else 1)
        rw [if_pos rfl, k2 0 21 (by decide) (by decide) (by omega) (by omega) (by omega), b6, Int.add_zero]
      · exact b7.trans (fun q j y1 y2 => k2 q j (by omega) (by omega) (by omega) (by omega) (by omega))
      · exact b8.trans (fun q y1 y2 => kT q (by omega))
theorem p_entry {N : Nat} (hN : 1000 ≤ N) {t v : List Int} {W : Int → Int} {Y : Int → List Int} {p n ty : Int} {E : Int → sen} {S : s_M} {T : Int → List Int} {V WN : Int → Int} (ht : TX S T) (hs : srx S t) (hst : sts S T W Y (V 5)) (hw : WX S WN) (h17 : S 0 17 = V 6) (h0 : 1 ≤ V 6 ∧ V 6 ≤ (t.length : Int)) (h18 : S 0 18 = 0) (h21 : 0 ≤ S 0 21 ∧ S 0 21 < 999) (hE : EX S T E n) (hty : rL ty) : ∃ S' T', A_entry N ty S = some (0, S') ∧ itK S S' T T' t (V 6) ((ten t W Y p v V WN ty E n).1, ((ten t W Y p v V WN ty E n).2.1.2.1, W, Y, (ten t W Y p v V WN ty E n).2.1.1, (ten t W Y p v V WN ty E n).2.1.2.2), (ten t W Y p v V WN ty E n).2.2.1, (ten t W Y p v V WN ty E n).2.2.2) := by
  have h320 := hs.2.1
  obtain ⟨n', en⟩ : ∃ n', N = n' + 1 := ⟨N - 1, by omega⟩
  have eN : A_entry_l27 N N = A_entry_l27 N (n' + 1) := by rw [← en]
  obtain ⟨a1, a2⟩ := p_wordR (N := N) hN hs h17 (by omega) h18 (by omega)
  have w6 : wdV t V 6 = (tkw t (V 6)).2 := by simp [wdV, rset]
  have w5 : wdV t V 5 = V 5 := by simp [wdV, rset]
  have ht1 : ∀ x : Int, TX (m_s S 0 17 x) T := fun x => ht.ex (fun q j z => m_sk (by omega))
  by_cases c : (tkw t (V 6)).1 = 0
  · rw [if_pos c] at a1
    have e : ten t W Y p v V WN ty E n = (false, (v, wdV t V, WN), E, n) := if_pos c
    rw [e, A_entry_e, bnd_e a1, if_neg (by rw [oth_18]; decide), eN, A_entry_l27_e, if_pos rfl, bnd_e (p_expx (by rw [m_sk (by decide), oth_18]; decide)), if_neg (by rw [m_sk (by decide), oth_18]; decide)]
    refine ⟨_, T, rfl, itK.s78 (itK.rd (V := wdV t V) ?_ (by rw [w5]; exact hst) hE (by rw [w6]; exact a2))⟩
    rw [w6]
    exact rdR.no (ht1 (tkw t (V 6)).2) (fun _ _ => rfl) exW.at.exRd (hw.exw exW.at) m_s_s (m_sj (by decide))
  · rw [if_neg c] at a1
    obtain ⟨key, hkey⟩ : ∃ key, key = (tkw t (V 6)).1 := ⟨_, rfl⟩
    have k18 : m_s S 0 17 (tkw t (V 6)).2 0 18 = 0 := (m_sj (by decide)).trans h18
    have xf : exFd S (m_s (m_s S 0 17 (tkw t (V 6)).2) 7 8 0) := fun q j _ _ _ d e _ => (m_s_n e).trans (m_s_n (by omega))
    have hsc : scr (m_s (m_s S 0 17 (tkw t (V 6)).2) 7 8 0) T (bge (E n) (tkw t (V 6)).1 ty) := by
      refine ⟨m_s_s, by show (0 : Int) ≤ 0 ∧ (0 : Int) ≤ 6; decide, fun f f0 f1 => absurd f1 (by show ¬ f < 0; omega), fun i j i0 i1 => absurd i1 (by show ¬ i < 0; omega), ?_⟩
      show (0 : Int) = (if fx (E n).2.1 0 xref < 0 then 0 else _)
      rw [if_pos (show fx (E n).2.1 0 xref < 0 from (by decide : (-1 : Int) < 0))]
    obtain ⟨S3, T3, n3, i1, i2⟩ := p_enl (N := N) hN (t := t) (W := W) (Y := Y) (p := p) (ty := ty) (key := (tkw t (V 6)).1) 320 N (m_s (m_s S 0 17 (tkw t (V 6)).2) 7 8 0) T (v, wdV t V, WN) (bge (E n) (tkw t (V 6)).1 ty) ((ht1 (tkw t (V 6)).2).ex (fun q j z => m_sk (by omega))) (hs.exa xf.exA) (by show sts _ T W Y (wdV t V 5); rw [w5]; exact hst.exf xf (fF.refl T)) ((hw.exw exW.at).ex (fun j => m_sk (by decide))) (by show _ = wdV t V 6; rw [w6, m_sk (by decide), m_s_s]) (by show 0 ≤ wdV t V 6 ∧ wdV t V 6 ≤ (t.length : Int); rw [w6]; omega) ((m_sk (by decide)).trans k18) (by rw [m_sk (by decide), m_sj (by decide)]; exact h21) hsc (by show 321 ≤ wdV t V 6 + ((320 : Nat) : Int); rw [w6]; omega) (by omega)
    have et : tef t W Y p v V WN ty (E n) = tel t W Y p 320 false ((v, wdV t V, WN), bge (E n) (tkw t (V 6)).1 ty) := rfl
    have e : ten t W Y p v V WN ty E n = if (tec t (tef t W Y p v V WN ty (E n))).1 = true then (true, ((tec t (tef t W Y p v V WN ty (E n))).2.1.1, (tec t (tef t W Y p v V WN ty (E n))).2.1.2.1, kdW (eset E n (tec t (tef t W Y p v V WN ty (E n))).2.2) n (tec t (tef t W Y p v V WN ty (E n))).2.1.2.2), eset E n (tec t (tef t W Y p v V WN ty (E n))).2.2, kdn (eset E n (tec t (tef t W Y p v V WN ty (E n))).2.2) n) else (false, (tec t (tef t W Y p v V WN ty (E n))).2.1, eset E n (tec t (tef t W Y p v V WN ty (E n))).2.2, n) := if_neg c
    rw [← et] at i2
    obtain ⟨z, hz⟩ : ∃ z, z = tec t (tef t W Y p v V WN ty (E n)) := ⟨_, rfl⟩
    rw [← hz] at i2 e
    obtain ⟨u1, u2, u3, u4, u5, u6, u7⟩ := i2
    have u4' : V 6 ≤ z.2.1.2.1 6 ∧ z.2.1.2.1 6 ≤ (t.length : Int) := by
      have : wdV t V 6 ≤ z.2.1.2.1 6 ∧ z.2.1.2.1 6 ≤ (t.length : Int) := u4
      rw [w6] at this
      omega
    have u6' : z.2.1.2.1 5 = V 5 := u6.trans w5
    have xF : exFd S S3 := xf.trans u3
    have ecg : ∀ i : Int, 0 ≤ i → i < n → eset E n z.2.2 i = E i := fun i i0 i1 => eset_ne (by omega)
    have s21 : m_s (m_s S 0 17 (tkw t (V 6)).2) 7 8 0 0 21 = S 0 21 := (m_sk (by decide)).trans (m_sj (by decide))
    rw [s21] at u7
    rw [e, A_entry_e, bnd_e a1, if_pos k18, i1, A_entry_l27_e, if_pos rfl]
    rcases u7 with ⟨y1, y2, y3, y4, y5⟩ | ⟨y1, y2, y3, y4, y5, y6⟩
    · rw [if_neg (show ¬ z.1 = true by rw [y2]; decide), bnd_e (p_expx (by omega)), if_neg (by omega)]
      refine ⟨S3, T3, rfl, u1, ?_, y3, (hE.exf xF u2).cg ecg, y4, y5, xF.exA, u2.fT, u4'⟩
      show sts S3 T3 W Y (z.2.1.2.1 5)
      rw [u6']
      exact hst.exf xF u2
    · have hx := p_expect (N := N) hN (c := 125) (hs.exa xF.exA) (by decide) rfl y4 y1 (by omega)
      rw [y5] at hx
      have xE : exFd S3 (m_s S3 0 17 (z.2.1.2.1 6)) := exW.at.exRd.exFd
      have ht4 : TX (m_s S3 0 17 (z.2.1.2.1 6)) T3 := u1.ex (fun q j z => m_sk (by omega))
      have hst4 : sts (m_s S3 0 17 (z.2.1.2.1 6)) T3 W Y (V 5) := (hst.exf xF u2).exf xE (fF.refl T3)
      by_cases d : z.1 = true
      · rw [if_pos d] at hx
        rw [if_pos d, bnd_e hx, if_pos ((m_sj (by decide)).trans y1)]
        have hB : enB S (m_s S3 0 17 (z.2.1.2.1 6)) T T3 W Y (V 5) z.2.1.2.2 E n z.2.2 := ⟨ht4, hst4, y2.exw exW.at, (hE.exf xF u2).exf xE (fF.refl T3), y6.exr exW.at.exRd (fun _ _ => rfl), (m_sj (by decide)).trans y3, xF.exA.trans xE.exA, u2.fT⟩
        exact hB.keep hN u6' m_s_s u4' (tkw_wdk c) (tkw_rng t (V 6)) hty u5.1 u5.2
      · rw [if_neg d] at hx
        rw [if_neg d, bnd_e hx, if_neg (by rw [oth_18]; decide)]
        refine ⟨_, T3, rfl, oth_tx ht4, ?_, ?_, ?_, oth_17.trans m_s_s, ?_, ?_, u2.fT, u4'⟩
        · show sts _ T3 W Y (z.2.1.2.1 5)
          rw [u6']
          exact hst4.ex oth_exR (fun _ _ => rfl)
        · show WX _ (if false = true then _ else inc z.2.1.2.2 1)
          rw [if_neg (by decide)]
          exact (y2.exw exW.at).no1
        · exact (((hE.exf xF u2).exf xE (fF.refl T3)).exr oth_exR (fun _ _ => rfl)).cg ecg
        · show oth (m_s S3 0 17 (z.2.1.2.1 6)) 0 21 = S 0 21 + (if false = true then 0 else 1)
          rw [if_neg (by decide), oth_21, m_sj (by decide), y3]
        · exact (xF.exA.trans xE.exA).trans oth_exR.exA
