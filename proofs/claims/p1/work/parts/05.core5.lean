/-! Booleans as numbers; contracts that are functions, and their calls; Math.max, Math.min, System.arraycopy. -/
def s_b (b : Bool) : Int := if b = true then 1 else 0
theorem s_b_t : s_b true = 1 := rfl
theorem s_b_f : s_b false = 0 := rfl
theorem s_b_r (b : Bool) : 0 ≤ s_b b ∧ s_b b ≤ 1 := by cases b <;> decide
theorem s_b_nar (b : Bool) : narrow .boolean (vi (s_b b)) = vi (s_b b) := by cases b <;> rfl
/-- the contract's end is a function of its start -/
def pF (v : Option Value) (sh : s_S) (M : s_M) (sz : Int) : s_Po := fun v' sh' M' sz' => v' = v ∧ sh' = sh ∧ M' = M ∧ sz' = sz
def kV (own : String) (ix : Nat) (y : MethodName) (bytes : ByteArray) (maxL : Nat) (ret : Option FieldType) (np ci : Nat) : Prop := kOK own ix y bytes maxL ret np ∧ Cond.instanceMethod y ∈ wAll ∧ Cond.selects y.cls y y ∈ wAll ∧ maxL ≤ 80 ∧ ∃ (T : u_T) (N : Nat), cAll[ci]? = some (y.cls, T, N)
def kS (own : String) (ix : Nat) (y : MethodName) (bytes : ByteArray) (maxL : Nat) (ret : Option FieldType) (np : Nat) : Prop := kOK own ix y bytes maxL ret np ∧ Cond.static y ∈ wAll ∧ maxL ≤ 80
def kI (own : String) (ix : Nat) (y : MethodName) (bytes : ByteArray) (maxL np : Nat) : Prop := kOK own ix y bytes maxL none np ∧ Cond.instanceMethod y ∈ wAll ∧ y.name = "<init>" ∧ maxL ≤ 80
section GoMore
variable {l : Launch} {D : va_G} {cc : ByteArray} {own nm : String} {nL : Nat} {ret : Option FieldType} {d mc ms : Nat} {sh0 : s_S} {sz0 : Int} {Po : s_Po} {g : g_X} {k n : Nat} {sh : s_S} {M : s_M} {sz : Int} {pc : Nat} {lv lv' : List (Nat × Value)} {st r : List Value}
theorem go_ifb_eq (X : Cx l D cc own nm nL ret d mc ms sh0 sz0 Po g) {b : Bool} {off : Int} {tgt : Nat} (hd : decode cc pc = .ok (.ifCond .eq off, 3)) (ht : (pc : Int) + off = (tgt : Int)) (kt : b = false → Go g k n sh M sz tgt lv r) (kf : b = true → Go g k n sh M sz (pc + 3) lv r) : Go g k n sh M sz pc lv (vi (s_b b) :: r) := by
  refine go_if_eq X hd ht (by have := s_b_r b; omega) (fun h => kt ?_) (fun h => kf ?_)
  · cases b
    · rfl
    · exact absurd h (by decide)
  · cases b
    · exact absurd rfl h
    · rfl
theorem go_ifb_ne (X : Cx l D cc own nm nL ret d mc ms sh0 sz0 Po g) {b : Bool} {off : Int} {tgt : Nat} (hd : decode cc pc = .ok (.ifCond .ne off, 3)) (ht : (pc : Int) + off = (tgt : Int)) (kt : b = true → Go g k n sh M sz tgt lv r) (kf : b = false → Go g k n sh M sz (pc + 3) lv r) : Go g k n sh M sz pc lv (vi (s_b b) :: r) := by
  refine go_if_ne X hd ht (by have := s_b_r b; omega) (fun h => kt ?_) (fun h => kf ?_)
  · cases b
    · exact absurd rfl h
    · rfl
  · cases b
    · rfl
    · exact absurd h (by decide)
theorem go_cV (X : Cx l D cc own nm nL ret d mc ms sh0 sz0 Po g) {y : MethodName} {bytes : ByteArray} {maxL : Nat} {ret' : Option FieldType} {ix np d' mc' ms' : Nat} {As st2 : List Value} {Po' : s_Po} {b : Int} {ci : Nat} {ts : List FieldType} (hc : kV own ix y bytes maxL ret' np ci) (hM : Sp l D y bytes maxL ret' d' mc' ms' (vr b :: As) sh M sz Po') (hsh : sh b = some (.inl (ci, ts))) (hlen : As.length = np) (hst : st = As.reverse ++ vr b :: r) (hdd : d' + 1 ≤ d) (hr1 : (r.map fun v => v.category).sum ≤ 8) (hd : decode cc pc = .ok (.invokevirtual ix, 3)) (hk : k + mc' ≤ mc) (hn : n + ms' ≤ ms) (kk : ∀ (v : Option Value) (sh' : s_S) (M' : s_M) (sz' : Int), Po' v sh' M' sz' → Go g (k + mc') (n + ms') sh' M' sz' (pc + 3) lv (v.toList ++ r)) : Go g k n sh M sz pc lv st := by
  obtain ⟨h1, h2, h3, h4, T, N, h5⟩ := hc
  exact go_callV X h1 h2 h3 hM hsh h5 hlen hst hdd h4 hk hn hr1 hd kk
theorem go_cS (X : Cx l D cc own nm nL ret d mc ms sh0 sz0 Po g) {y : MethodName} {bytes : ByteArray} {maxL : Nat} {ret' : Option FieldType} {ix np d' mc' ms' : Nat} {As st2 : List Value} {Po' : s_Po} (hc : kS own ix y bytes maxL ret' np) (hM : Sp l D y bytes maxL ret' d' mc' ms' As sh M sz Po') (hlen : As.length = np) (hst : st = As.reverse ++ r) (hdd : d' + 1 ≤ d) (hr1 : (r.map fun v => v.category).sum ≤ 8) (hd : decode cc pc = .ok (.invokestatic ix, 3)) (hk : k + mc' ≤ mc) (hn : n + ms' ≤ ms) (kk : ∀ (v : Option Value) (sh' : s_S) (M' : s_M) (sz' : Int), Po' v sh' M' sz' → Go g (k + mc') (n + ms') sh' M' sz' (pc + 3) lv (v.toList ++ r)) : Go g k n sh M sz pc lv st := by
  obtain ⟨h1, h2, h3⟩ := hc
  exact go_callS X h1 h2 hM hlen hst hdd h3 hk hn hr1 hd kk
theorem go_cI (X : Cx l D cc own nm nL ret d mc ms sh0 sz0 Po g) {y : MethodName} {bytes : ByteArray} {maxL : Nat} {ix np d' mc' ms' : Nat} {As st2 : List Value} {Po' : s_Po} {b : Int} (hc : kI own ix y bytes maxL np) (hM : Sp l D y bytes maxL none d' mc' ms' (vr b :: As) sh M sz Po') (hlen : As.length = np) (hst : st = As.reverse ++ vr b :: r) (hdd : d' + 1 ≤ d) (hr1 : (r.map fun v => v.category).sum ≤ 8) (hd : decode cc pc = .ok (.invokespecial ix, 3)) (hk : k + mc' ≤ mc) (hn : n + ms' ≤ ms) (kk : ∀ (v : Option Value) (sh' : s_S) (M' : s_M) (sz' : Int), Po' v sh' M' sz' → Go g (k + mc') (n + ms') sh' M' sz' (pc + 3) lv (v.toList ++ r)) : Go g k n sh M sz pc lv st := by
  obtain ⟨h1, h2, h3, h4⟩ := hc
  exact go_callI X h1 h2 h3 hM hlen hst hdd h4 hk hn hr1 hd kk
theorem go_cVf (X : Cx l D cc own nm nL ret d mc ms sh0 sz0 Po g) {y : MethodName} {bytes : ByteArray} {maxL : Nat} {ret' : Option FieldType} {ix np d' mc' ms' : Nat} {As st2 : List Value} {v : Option Value} {sh2 : s_S} {M2 : s_M} {sz2 : Int} {b : Int} {ci : Nat} {ts : List FieldType} (hc : kV own ix y bytes maxL ret' np ci) (hM : Sp l D y bytes maxL ret' d' mc' ms' (vr b :: As) sh M sz (pF v sh2 M2 sz2)) (hsh : sh b = some (.inl (ci, ts))) (hlen : As.length = np) (hst : st = As.reverse ++ vr b :: r) (hdd : d' + 1 ≤ d) (hr1 : (r.map fun v => v.category).sum ≤ 8) (hd : decode cc pc = .ok (.invokevirtual ix, 3)) (hk : k + mc' ≤ mc) (hn : n + ms' ≤ ms) (hst2 : v.toList ++ r = st2) (kk : Go g (k + mc') (n + ms') sh2 M2 sz2 (pc + 3) lv st2) : Go g k n sh M sz pc lv st := by
  obtain ⟨h1, h2, h3, h4, T, N, h5⟩ := hc
  exact go_callV X h1 h2 h3 hM hsh h5 hlen hst hdd h4 hk hn hr1 hd (fun v' sh' M' sz' h => by
    obtain ⟨rfl, rfl, rfl, rfl⟩ := h
    rw [hst2]
    exact kk)
theorem go_cSf (X : Cx l D cc own nm nL ret d mc ms sh0 sz0 Po g) {y : MethodName} {bytes : ByteArray} {maxL : Nat} {ret' : Option FieldType} {ix np d' mc' ms' : Nat} {As st2 : List Value} {v : Option Value} {sh2 : s_S} {M2 : s_M} {sz2 : Int} (hc : kS own ix y bytes maxL ret' np) (hM : Sp l D y bytes maxL ret' d' mc' ms' As sh M sz (pF v sh2 M2 sz2)) (hlen : As.length = np) (hst : st = As.reverse ++ r) (hdd : d' + 1 ≤ d) (hr1 : (r.map fun v => v.category).sum ≤ 8) (hd : decode cc pc = .ok (.invokestatic ix, 3)) (hk : k + mc' ≤ mc) (hn : n + ms' ≤ ms) (hst2 : v.toList ++ r = st2) (kk : Go g (k + mc') (n + ms') sh2 M2 sz2 (pc + 3) lv st2) : Go g k n sh M sz pc lv st := by
  obtain ⟨h1, h2, h3⟩ := hc
  exact go_callS X h1 h2 hM hlen hst hdd h3 hk hn hr1 hd (fun v' sh' M' sz' h => by
    obtain ⟨rfl, rfl, rfl, rfl⟩ := h
    rw [hst2]
    exact kk)
theorem go_cIf (X : Cx l D cc own nm nL ret d mc ms sh0 sz0 Po g) {y : MethodName} {bytes : ByteArray} {maxL : Nat} {ix np d' mc' ms' : Nat} {As st2 : List Value} {v : Option Value} {sh2 : s_S} {M2 : s_M} {sz2 : Int} {b : Int} (hc : kI own ix y bytes maxL np) (hM : Sp l D y bytes maxL none d' mc' ms' (vr b :: As) sh M sz (pF v sh2 M2 sz2)) (hlen : As.length = np) (hst : st = As.reverse ++ vr b :: r) (hdd : d' + 1 ≤ d) (hr1 : (r.map fun v => v.category).sum ≤ 8) (hd : decode cc pc = .ok (.invokespecial ix, 3)) (hk : k + mc' ≤ mc) (hn : n + ms' ≤ ms) (hst2 : v.toList ++ r = st2) (kk : Go g (k + mc') (n + ms') sh2 M2 sz2 (pc + 3) lv st2) : Go g k n sh M sz pc lv st := by
  obtain ⟨h1, h2, h3, h4⟩ := hc
  exact go_callI X h1 h2 h3 hM hlen hst hdd h4 hk hn hr1 hd (fun v' sh' M' sz' h => by
    obtain ⟨rfl, rfl, rfl, rfl⟩ := h
    rw [hst2]
    exact kk)
theorem go_mmax (X : Cx l D cc own nm nL ret d mc ms sh0 sz0 Po g) {x y : Int} {ix : Nat} (hw1 : Cond.methodLink own ix Lib.Math.max.name ∈ wAll) (hw2 : Cond.static Lib.Math.max.name ∈ wAll) (hw3 : Cond.initialized "java/lang/Math" ∈ wAll) (hw4 : Cond.code Lib.Math.max.name Lib.Math.max.code 2 (some .int) ∈ wAll) (hx1 : -2147483648 ≤ x ∧ x < 2147483648) (hy1 : -2147483648 ≤ y ∧ y < 2147483648) (hd1 : 1 ≤ d) (hk : k ≤ mc) (hn : n ≤ ms) (hr1 : (r.map fun v => v.category).sum ≤ 8) (hd : decode cc pc = .ok (.invokestatic ix, 3)) (kk : Go g k n sh M sz (pc + 3) lv (vi (max x y) :: r)) : Go g k n sh M sz pc lv (vi y :: vi x :: r) := by
  obtain ⟨p, l', e, R, s, m, args, below, meth, c, D', A, Q, nL'⟩ := g
  obtain ⟨rfl, rfl, rfl, rfl, rfl, hQ, hx, hb, hown, hts, hK, hN, hml, hr, hlk, hnm, hsz0⟩ := X
  intro H locs ls hR hA hz hS hl
  refine va_mmax hx hb (hml.trans hl.1.symm) hown (hts _ hw1) (hts _ hw2) (hts _ hw3) (hts _ hw4) hd1 (by show _ + 13 ≤ 100 * d; omega) hk hn hd ?_

  have kk2 := kk H locs ls hR hA hz hS hl
  by_cases hq : x < y
  · rw [if_pos ((n_lt hx1 hy1).mpr hq)]
    have e1 : max x y = y := by omega
    rw [e1] at kk2
    exact kk2
  · rw [if_neg (fun q => hq ((n_lt hx1 hy1).mp q))]
    have e1 : max x y = x := by omega
    rw [e1] at kk2
    exact kk2
theorem go_mmin (X : Cx l D cc own nm nL ret d mc ms sh0 sz0 Po g) {x y : Int} {ix : Nat} (hw1 : Cond.methodLink own ix Lib.Math.min.name ∈ wAll) (hw2 : Cond.static Lib.Math.min.name ∈ wAll) (hw3 : Cond.initialized "java/lang/Math" ∈ wAll) (hw4 : Cond.code Lib.Math.min.name Lib.Math.min.code 2 (some .int) ∈ wAll) (hx1 : -2147483648 ≤ x ∧ x < 2147483648) (hy1 : -2147483648 ≤ y ∧ y < 2147483648) (hd1 : 1 ≤ d) (hk : k ≤ mc) (hn : n ≤ ms) (hr1 : (r.map fun v => v.category).sum ≤ 8) (hd : decode cc pc = .ok (.invokestatic ix, 3)) (kk : Go g k n sh M sz (pc + 3) lv (vi (min x y) :: r)) : Go g k n sh M sz pc lv (vi y :: vi x :: r) := by
  obtain ⟨p, l', e, R, s, m, args, below, meth, c, D', A, Q, nL'⟩ := g
  obtain ⟨rfl, rfl, rfl, rfl, rfl, hQ, hx, hb, hown, hts, hK, hN, hml, hr, hlk, hnm, hsz0⟩ := X
  intro H locs ls hR hA hz hS hl
  refine va_mmin hx hb (hml.trans hl.1.symm) hown (hts _ hw1) (hts _ hw2) (hts _ hw3) (hts _ hw4) hd1 (by show _ + 13 ≤ 100 * d; omega) hk hn hd ?_

  have kk2 := kk H locs ls hR hA hz hS hl
  by_cases hq : y < x
  · rw [if_pos ((n_lt hy1 hx1).mpr hq)]
    have e1 : min x y = y := by omega
    rw [e1] at kk2
    exact kk2
  · rw [if_neg (fun q => hq ((n_lt hy1 hx1).mp q))]
    have e1 : min x y = x := by omega
    rw [e1] at kk2
    exact kk2
theorem go_mmaxl (X : Cx l D cc own nm nL ret d mc ms sh0 sz0 Po g) {x y : Int} {ix : Nat} (hw1 : Cond.methodLink own ix Lib.MathLoose.max_long.x ∈ wAll) (hw2 : Cond.static Lib.MathLoose.max_long.x ∈ wAll) (hw3 : Cond.initialized "java/lang/Math" ∈ wAll) (hw4 : Cond.code Lib.MathLoose.max_long.x Lib.MathLoose.max_long.code 4 (some .long) ∈ wAll) (hx1 : -9223372036854775808 ≤ x ∧ x < 9223372036854775808) (hy1 : -9223372036854775808 ≤ y ∧ y < 9223372036854775808) (hd1 : 1 ≤ d) (hk : k ≤ mc) (hn : n ≤ ms) (hr1 : (r.map fun v => v.category).sum ≤ 8) (hd : decode cc pc = .ok (.invokestatic ix, 3)) (kk : Go g k n sh M sz (pc + 3) lv (vl (max x y) :: r)) : Go g k n sh M sz pc lv (vl y :: vl x :: r) := by
  obtain ⟨p, l', e, R, s, m, args, below, meth, c, D', A, Q, nL'⟩ := g
  obtain ⟨rfl, rfl, rfl, rfl, rfl, hQ, hx, hb, hown, hts, hK, hN, hml, hr, hlk, hnm, hsz0⟩ := X
  intro H locs ls hR hA hz hS hl
  refine va_mmax_long hx hb (hml.trans hl.1.symm) hown (hts _ hw1) (hts _ hw2) (hts _ hw3) (hts _ hw4) hd1 (by show _ + 15 ≤ 100 * d; omega) hk hn hd ?_

  have kk2 := kk H locs ls hR hA hz hS hl
  by_cases hq : y < x
  · rw [if_pos ((l_lt hy1 hx1).mpr hq)]
    have e1 : max x y = x := by omega
    rw [e1] at kk2
    exact kk2
  · rw [if_neg (fun q => hq ((l_lt hy1 hx1).mp q))]
    have e1 : max x y = y := by omega
    rw [e1] at kk2
    exact kk2
theorem go_mminl (X : Cx l D cc own nm nL ret d mc ms sh0 sz0 Po g) {x y : Int} {ix : Nat} (hw1 : Cond.methodLink own ix Lib.MathLoose.min_long.x ∈ wAll) (hw2 : Cond.static Lib.MathLoose.min_long.x ∈ wAll) (hw3 : Cond.initialized "java/lang/Math" ∈ wAll) (hw4 : Cond.code Lib.MathLoose.min_long.x Lib.MathLoose.min_long.code 4 (some .long) ∈ wAll) (hx1 : -9223372036854775808 ≤ x ∧ x < 9223372036854775808) (hy1 : -9223372036854775808 ≤ y ∧ y < 9223372036854775808) (hd1 : 1 ≤ d) (hk : k ≤ mc) (hn : n ≤ ms) (hr1 : (r.map fun v => v.category).sum ≤ 8) (hd : decode cc pc = .ok (.invokestatic ix, 3)) (kk : Go g k n sh M sz (pc + 3) lv (vl (min x y) :: r)) : Go g k n sh M sz pc lv (vl y :: vl x :: r) := by
  obtain ⟨p, l', e, R, s, m, args, below, meth, c, D', A, Q, nL'⟩ := g
  obtain ⟨rfl, rfl, rfl, rfl, rfl, hQ, hx, hb, hown, hts, hK, hN, hml, hr, hlk, hnm, hsz0⟩ := X
  intro H locs ls hR hA hz hS hl
  refine va_mmin_long hx hb (hml.trans hl.1.symm) hown (hts _ hw1) (hts _ hw2) (hts _ hw3) (hts _ hw4) hd1 (by show _ + 15 ≤ 100 * d; omega) hk hn hd ?_

  have kk2 := kk H locs ls hR hA hz hS hl
  by_cases hq : y < x
  · rw [if_pos ((l_lt hy1 hx1).mpr hq)]
    have e1 : min x y = y := by omega
    rw [e1] at kk2
    exact kk2
  · rw [if_neg (fun q => hq ((l_lt hy1 hx1).mp q))]
    have e1 : min x y = x := by omega
    rw [e1] at kk2
    exact kk2
end GoMore
