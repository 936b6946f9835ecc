/-! System.arraycopy between arrays of chars. -/
/-- n numbers from (src, sp) on to (dst, dp) on -/
def m_cp (M : s_M) (dst dp src sp n : Int) : s_M := fun b i => if b = dst ∧ dp ≤ i ∧ i < dp + n then M src (sp + (i - dp)) else M b i
theorem m_cp_a {M : s_M} {dst dp src sp n b : Int} (h : b ≠ dst) : m_cp M dst dp src sp n b = M b := by
  funext i
  exact if_neg fun q => h q.1
theorem n_neg {x : Int} (h : 0 ≤ x ∧ x < 2147483648) : ¬ Int32.ofInt x < 0 := fun q => by
  rw [n_0, n_lt (by omega) (by omega)] at q
  omega
theorem n_fcx {x : Int} (h : 0 ≤ x ∧ x < 65536) : fits .char (vi x) = true := n_fc h
section GoCopy
variable {l : Launch} {D : va_G} {cc : ByteArray} {own nm : String} {nL : Nat} {ret : Option FieldType} {d mc ms : Nat} {sh0 : s_S} {sz0 : Int} {Po : s_Po} {g : g_X} {k n : Nat} {sh : s_S} {M : s_M} {sz : Int} {pc : Nat} {lv lv' : List (Nat × Value)} {st r : List Value}
theorem go_copyc (X : Cx l D cc own nm nL ret d mc ms sh0 sz0 Po g) {src dst sp dp q : Int} {ix N0 N1 : Nat} (hw1 : Cond.methodLink own ix arraycopyName ∈ wAll) (hw2 : Cond.native arraycopyName ∈ wAll) (hw3 : Cond.static arraycopyName ∈ wAll) (hw4 : Cond.initialized "java/lang/System" ∈ wAll) (hk0 : sh src = some (.inr (.char, N0))) (hk1 : sh dst = some (.inr (.char, N1))) (hn0 : N0 ≤ 100000) (hn1 : N1 ≤ 100000) (h1 : 0 ≤ sp) (h2 : 0 ≤ dp) (h3 : 0 ≤ q) (h4 : sp + q ≤ N0) (h5 : dp + q ≤ N1) (hfit : ∀ i, 0 ≤ M src i ∧ M src i < 65536) (hd1 : 1 ≤ d) (hr1 : (r.map fun v => v.category).sum ≤ 8) (hd : decode cc pc = .ok (.invokestatic ix, 3)) (kk : Go g k n sh (m_cp M dst dp src sp q) sz (pc + 3) lv r) : Go g k n sh M sz pc lv (vi q :: vi dp :: vr dst :: vi sp :: vr src :: r) := by
  obtain ⟨p, l', e, R, s, m, args, below, meth, c, D', A, Q, nL'⟩ := g
  obtain ⟨rfl, rfl, rfl, rfl, rfl, hQ, hx, hb, hown, hts, hK, hN, hml, hr, hlk, hnm, hsz0⟩ := X
  intro H locs ls hR hA hz hS hl
  obtain ⟨h00, c0, ⟨hAr0, hRA0⟩, hc0⟩ := hR src _ hk0
  obtain ⟨h10, c1, ⟨hAr1, hRA1⟩, hc1⟩ := hR dst _ hk1
  intro T hT X
  have hc0 : H[src.toNat]? = some (vp_cell c0 (N0, .inl (fun j => Int32.ofInt (M src (j : Int))))) := hc0
  have hc1 : H[dst.toNat]? = some (vp_cell c1 (N1, .inl (fun j => Int32.ofInt (M dst (j : Int))))) := hc1
  obtain ⟨-, k0, hk0', cm0, hkk0⟩ := hAr0 N0 (fun j => .int (Int32.ofInt (M src (j : Int))))
  obtain ⟨-, k1, hk1', cm1, hkk1⟩ := hAr1 N1 (fun j => .int (Int32.ofInt (M dst (j : Int))))
  have esp : (Int32.ofInt sp).toNatClampNeg = sp.toNat := n_clamp (by omega)
  have edp : (Int32.ofInt dp).toNatClampNeg = dp.toNat := n_clamp (by omega)
  have eq0 : (Int32.ofInt q).toNatClampNeg = q.toNat := n_clamp (by omega)
  have e9 : nativeFrameWords "java/lang/System" "arraycopy" 5 ≤ 60 := by decide +kernel
  obtain ⟨vm', X', step⟩ := X.arraycopy hx hown (hts _ hw1) (hts _ hw2) (hts _ hw3) (hts _ hw4) (src := src.toNat) (dst := dst.toNat) (cs := vp_cell c0 (N0, .inl (fun j => Int32.ofInt (M src (j : Int))))) (cd := vp_cell c1 (N1, .inl (fun j => Int32.ofInt (M dst (j : Int))))) (srcPos := Int32.ofInt sp) (destPos := Int32.ofInt dp) (n := Int32.ofInt q) (by rw [hT]; exact hc0) (by rw [hT]; exact hc1)
    (fun _ h => by cases h) (fun _ h => by cases h) (fun h => by cases h) (fun h => by cases h) hk0' hk1' hkk0 hkk1 (by simp [refKind]) (n_neg (by omega)) (n_neg (by omega)) (n_neg (by omega))
    (by rw [n_to (by omega), n_to (by omega)]; show ¬ _ > ((arrV c0 N0 _).slots.size : Int); rw [arrV_size]; omega)
    (by rw [n_to (by omega), n_to (by omega)]; show ¬ _ > ((arrV c1 N1 _).slots.size : Int); rw [arrV_size]; omega)
    (fun vm₁ _ i hi => by
      rw [eq0] at hi
      have e : (vp_cell c0 (N0, .inl (fun j => Int32.ofInt (M src (j : Int))))).slots.getD ((Int32.ofInt sp).toNatClampNeg + i) .null = vi (M src ((sp.toNat + i : Nat) : Int)) := by
        rw [esp]
        show (arrV c0 N0 _).slots.getD _ _ = _
        rw [Array.getD_eq_getD_getElem?, arrV_read _ _ (by omega)]
        rfl
      refine ⟨?_, ?_⟩
      · rw [e]
        exact n_fcx (hfit _)
      · rw [e]
        exact trivial)
    (g := F0 m pc ls (vi q :: vi dp :: vr dst :: vi sp :: vr src :: r)) rfl (by rw [hml]; exact hl.1) (rest := r) rfl (by rw [hb]; exact hd) hd1 (by show 2 * 0 + _ + (nativeFrameWords "java/lang/System" "arraycopy" 5 + 11) ≤ 100 * d; omega)
  have e1 : copied (vp_cell c0 (N0, .inl (fun j => Int32.ofInt (M src (j : Int))))) (vp_cell c1 (N1, .inl (fun j => Int32.ofInt (M dst (j : Int))))) (Int32.ofInt sp) (Int32.ofInt dp) (Int32.ofInt q) = vp_cell c1 (N1, .inl (fun j => Int32.ofInt (m_cp M dst dp src sp q dst (j : Int)))) := by
    refine (va_copied (fun z => .int z) c0 c1 (fun j => Int32.ofInt (M src (j : Int))) (fun j => Int32.ofInt (M dst (j : Int))) (by rw [esp, eq0]; omega)).trans ?_
    rw [vp_cell_i]
    congr 1
    funext j
    rw [esp, edp, eq0]
    show Value.int (va_cpy _ _ _ _ _ j) = Value.int _
    congr 1
    unfold va_cpy m_cp
    by_cases hj : dp.toNat ≤ j ∧ j < dp.toNat + q.toNat
    · rw [if_pos hj, if_pos (by omega)]
      have e5 : ((sp.toNat + (j - dp.toNat) : Nat) : Int) = sp + ((j : Int) - dp) := by omega
      show Int32.ofInt (M src ((sp.toNat + (j - dp.toNat) : Nat) : Int)) = _
      rw [e5]
    · rw [if_neg hj, if_neg (by omega)]
  rw [e1] at X' step
  have hlt : dst.toNat < H.size := (Array.getElem?_eq_some_iff.mp hc1).1
  have oq : ∀ z : Nat, z ≠ dst.toNat → (H.setIfInBounds dst.toNat (vp_cell c1 (N1, .inl (fun j => Int32.ofInt (m_cp M dst dp src sp q dst (j : Int))))))[z]? = H[z]? := fun z hq => by simp [Array.getElem?_setIfInBounds, Ne.symm hq]
  have hdA : s_fr sh0 sz0 dst.toNat := hA dst (by rw [hk1]; rfl)
  obtain ⟨t, a1, b1⟩ := kk (H.setIfInBounds dst.toNat (vp_cell c1 (N1, .inl (fun j => Int32.ofInt (m_cp M dst dp src sp q dst (j : Int)))))) _ ls (hR.put (M' := m_cp M dst dp src sp q) hk1 ⟨c1, ⟨hAr1, hRA1⟩, by rw [Array.getElem?_setIfInBounds, if_pos rfl, if_pos hlt]; rfl⟩ (fun b hb' => m_cp_a hb') oq) hA (by rw [Array.size_setIfInBounds]; exact hz)
    ⟨by rw [Array.size_setIfInBounds]; exact hS.1, fun z g1 g2 => by
      rw [oq z (fun e => g2 (by rw [e]; exact hdA))]
      exact hS.2.1 z g1 g2, fun z hz' => by
      rcases List.mem_append.mp hz' with h | h
      · exact hS.2.2 z h
      · obtain ⟨y, -, hy⟩ := List.mem_map.mp h
        rw [← hy]
        exact hdA⟩ hl _ (by rw [← hT]; rfl) X'
  exact ⟨t, step t a1, b1⟩
end GoCopy
theorem w_ac2 : Cond.native arraycopyName ∈ wAll := w_of3 43 (by decide +kernel) rfl
theorem w_ac3 : Cond.static arraycopyName ∈ wAll := w_of3 42 (by decide +kernel) rfl
theorem w_ac4 : Cond.initialized "java/lang/System" ∈ wAll := w_of1 19 (by decide +kernel) rfl
theorem w_ac_Text_28 : Cond.methodLink "CiteForge$Text" 28 arraycopyName ∈ wAll := w_of3 41 (by decide +kernel) rfl
