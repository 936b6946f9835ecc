/-! The judgement Go: the kit's W, with the locals as a list, the heap as shape and contents; g: all that stays the same during a walk. -/
abbrev g_X : Type := Program × Launch × Env × Room × State × MethodId × Array Value × List Frame × Method × Code × va_G × (Nat → Prop) × (State → Prop) × Nat
abbrev s_Po : Type := Option Value → s_S → s_M → Int → Prop
def Go (g : g_X) (k n : Nat) (sh : s_S) (M : s_M) (sz : Int) (pc : Nat) (lv : List (Nat × Value)) (st : List Value) : Prop := match g with
  | (p, l, e, R, s, m, args, below, meth, c, D, A, Q, nL) => ∀ (H : Heap) (locs : List Loc) (ls : Array Slot), s_R D cAll s sh M H → (∀ a : Int, (sh a).isSome = true → A a.toNat) → (H.size : Int) = sz → va_S A s.heap H locs → lv_has ls nL lv → W p l e R s m args below meth c H locs k n Q (F0 m pc ls st)
/-- the cells that a method may write -/
def s_fr (sh : s_S) (sz : Int) : Nat → Prop := fun q => (sh (q : Int)).isSome = true ∨ sz ≤ (q : Int)
/-- the words of private members of nest mates, and of arrays of references: they go along in each contract's start -/
def s_N (U : State) : Prop := (∀ w ∈ nAll, va_Nw w U) ∧ ∀ C ∈ aAll, va_AO C U
theorem s_N.warm {s U : State} (hW : s.WarmedH U.vm) (h : s_N s) : s_N U := by
  refine ⟨fun w hw => ?_, fun C hC => va_AO.moved hW.alike (h.2 C hC)⟩
  have h1 := h.1 w hw
  have h2 : s_nest w = true := List.all_eq_true.mp nAll_ok w hw
  cases w <;> first | exact va_Nw.warmF hW h1 | exact va_Nw.warmM hW h1 | (simp [s_nest] at h2)
theorem s_N.same {u U : State} (hv : u.vm = U.vm) (h : s_N u) : s_N U := by
  refine ⟨fun w hw => ?_, fun C hC => va_AO.moved (by rw [hv]; exact Vm.Alike.refl U.vm) (h.2 C hC)⟩
  have h1 := h.1 w hw
  have h2 : s_nest w = true := List.all_eq_true.mp nAll_ok w hw
  cases w <;> first | exact va_Nw.same rfl hv h1 | (simp [s_nest] at h2)
theorem W.mono {p : Program} {l : Launch} {e : Env} {R : Room} {s : State} {m : MethodId} {args : Array Value} {below : List Frame} {meth : Method} {c : Code} {H : Heap} {locs : List Loc} {k n : Nat} {Q Q' : State → Prop} {g : JFrame} (h : ∀ t, Q t → Q' t) (w : W p l e R s m args below meth c H locs k n Q g) : W p l e R s m args below meth c H locs k n Q' g := fun T hT X => by
  obtain ⟨t, a, b⟩ := w T hT X
  exact ⟨t, a, h t b⟩
def s_Pre (D : va_G) (av : List Value) (sh : s_S) (M : s_M) (sz : Int) : Array Value → State → Prop := va_Pc av (fun U => (U.heap.size : Int) = sz ∧ s_R D cAll U sh M U.heap ∧ va_K D cAll [] U ∧ s_N U)
def s_Q (D : va_G) (sh : s_S) (sz : Int) (Po : s_Po) : Array Value → State → Outcome → State → Prop := fun _ st o t => ∃ (v : Option Value) (sh' : s_S) (M' : s_M), o = .returned v ∧ Po v sh' M' (t.heap.size : Int) ∧ s_R D cAll t sh' M' t.heap ∧ (∀ a : Int, (sh' a).isSome = true → s_fr sh sz a.toNat) ∧ va_F (s_fr sh sz) st t
/-- a method's words: its code, and all that the law's tables say -/
abbrev wOf (y : MethodName) (cc : ByteArray) (nL : Nat) (ret : Option FieldType) : List Cond := Cond.code y cc nL ret :: wAll
abbrev rOf (d mc ms : Nat) : Room := { frames := d, cells := mc, slots := ms, locals := 100 * d }
/-- A CONTRACT: from this shape and these contents, at these arguments, the method returns, and Po holds of its answer, the new shape, the new contents, the heap's new size -/
def Sp (l : Launch) (D : va_G) (y : MethodName) (cc : ByteArray) (nL : Nat) (ret : Option FieldType) (d mc ms : Nat) (av : List Value) (sh : s_S) (M : s_M) (sz : Int) (Po : s_Po) : Prop :=
  Met l y (wOf y cc nL ret) (rOf d mc ms) (s_Pre D av sh M sz) (s_Q D sh sz Po) mc ms (s_fr sh sz)
/-- what a method's walk rests on -/
def Cx (l0 : Launch) (D0 : va_G) (cc : ByteArray) (own nm : String) (nL0 : Nat) (ret : Option FieldType) (d mc ms : Nat) (sh0 : s_S) (sz0 : Int) (Po : s_Po) (g : g_X) : Prop := match g with
  | (p, l, _, R, s, m, args, below, meth, c, D, A, Q, nL) => l = l0 ∧ D = D0 ∧ nL = nL0 ∧ R = rOf d mc ms ∧ A = s_fr sh0 sz0 ∧ (∀ t, MQ below (s_Q D0 sh0 sz0 Po) args s mc ms (s_fr sh0 sz0) t → Q t) ∧
    p.tables.exec = Jvm.exec ∧ c.code = cc ∧ s.vm.findClass own = some m.cls ∧ (∀ w ∈ wAll, w.before args s = true) ∧ va_K D0 cAll [] s ∧ s_N s ∧ c.maxLocals = nL0 ∧ meth.sig.returnType = ret ∧ meth.locks = false ∧ meth.name = nm ∧ (s.heap.size : Int) = sz0
theorem s_dom {D : va_G} {cl : List vw_C} {s : State} {sh : s_S} {M : s_M} {H : Heap} {sz : Int} (hR : s_R D cl s sh M H) : ∀ a : Int, (sh a).isSome = true → s_fr sh sz a.toNat := by
  intro a ha
  obtain ⟨k, hk⟩ := Option.isSome_iff_exists.mp ha
  refine Or.inl ?_
  rw [Int.toNat_of_nonneg (hR a k hk).1]
  exact ha
theorem Sp.ofGo {l : Launch} {D : va_G} {y : MethodName} {cc : ByteArray} {nL : Nat} {ret : Option FieldType} {d mc ms : Nat} {av : List Value} {sh : s_S} {M : s_M} {sz : Int} {Po : s_Po} {own nm : String} (hy : plainName y.cls = true) (hown : y.cls = own) (hnm : y.name = nm) (hlen : (lg_sl av).length ≤ nL) {lv : List (Nat × Value)} (hlv : lv_args 0 av = lv)
    (body : ∀ g : g_X, Cx l D cc own nm nL ret d mc ms sh sz Po g → Go g 0 0 sh M sz 0 lv []) : Sp l D y cc nL ret d mc ms av sh M sz Po := by
  subst hlv
  refine Met.ofW (cc := cc) (maxL := nL) (ret := ret) hy rfl ?_
  intro p e s m args below meth c s₁ B hml hv
  obtain ⟨rfl, hsz, hR, hK, hN⟩ := hv
  have hts := atoms_spec (ws := wOf y cc nL ret) B.pre
  have hgo := body (p, l, e, rOf d mc ms, s, m, av.toArray, below, meth, c, D, s_fr sh sz, MQ below (s_Q D sh sz Po) av.toArray s mc ms (s_fr sh sz), nL)
    ⟨rfl, rfl, rfl, rfl, rfl, fun _ h => h, B.exec, B.bytes, by rw [← hown]; exact findClass_of_methodNamed B.named, fun w hw => hts w (List.mem_cons_of_mem _ hw), hK, hN, hml, B.returns, B.notSynchronized, by rw [← hnm]; exact (name_of_methodNamed B.named B.method).1, hsz⟩
  rw [lg_entry_eq]
  exact hgo s.heap [] _ hR (s_dom hR) hsz va_S.rf (lv_entry av hlen)
/-- what of a local is known -/
def g_ld (lv : List (Nat × Value)) (i : Nat) : Option Value := (lv.find? (fun q => q.1 == i)).map (fun q => q.2)
theorem g_ld_at {lv : List (Nat × Value)} {i nL : Nat} {v : Value} {ls : Array Slot} (h : g_ld lv i = some v) (hl : lv_has ls nL lv) : ls[i]? = some (.val v) := by
  unfold g_ld at h
  cases hf : lv.find? (fun q => q.1 == i) with
  | none => rw [hf] at h; cases h
  | some q =>
    rw [hf] at h
    cases h
    have h1 : (q.1 == i) = true := List.find?_some (p := fun q : Nat × Value => q.1 == i) hf
    have h2 := List.mem_of_find?_eq_some hf
    have h3 : q.1 = i := by simpa using h1
    rw [← h3]
    exact hl.2.2 q h2
theorem g_ld_k {lv : List (Nat × Value)} {i : Nat} {v : Value} (h : g_ld lv i = some v) : ∃ k : Nat, lv[k]? = some (i, v) := by
  unfold g_ld at h
  cases hf : lv.find? (fun q => q.1 == i) with
  | none => rw [hf] at h; cases h
  | some q =>
    rw [hf] at h
    cases h
    have h1 : (q.1 == i) = true := List.find?_some (p := fun q : Nat × Value => q.1 == i) hf
    have h2 := List.mem_of_find?_eq_some hf
    have h3 : q.1 = i := by simpa using h1
    obtain ⟨k, hk⟩ := List.getElem?_of_mem h2
    exact ⟨k, by rw [hk, ← h3]⟩
abbrev g_s1 (lv : List (Nat × Value)) (i : Nat) (v : Value) : List (Nat × Value) := (i, v) :: lv.filter (fun q => !(q.1 == i) && !(q.1 + 1 == i && q.2.category == 2))
abbrev g_s2 (lv : List (Nat × Value)) (i : Nat) (v : Value) : List (Nat × Value) := (i, v) :: lv.filter (fun q => !(q.1 == i) && (!(q.1 == i + 1) && !(q.1 + 1 == i && q.2.category == 2)))
section GoRows
variable {l : Launch} {D : va_G} {cc : ByteArray} {own nm : String} {nL : Nat} {ret : Option FieldType} {d mc ms : Nat} {sh0 : s_S} {sz0 : Int} {Po : s_Po} {g : g_X} {k n : Nat} {sh : s_S} {M : s_M} {sz : Int} {pc : Nat} {lv lv' : List (Nat × Value)} {st r : List Value}
theorem go_iconst (X : Cx l D cc own nm nL ret d mc ms sh0 sz0 Po g) {v : Int} (hd : decode cc pc = .ok (.iconst v, 1)) (kk : Go g k n sh M sz (pc + 1) lv (vi v :: st)) : Go g k n sh M sz pc lv st := by
  obtain ⟨p, l', e, R, s, m, args, below, meth, c, D', A, Q, nL'⟩ := g
  obtain ⟨rfl, rfl, rfl, rfl, rfl, hQ, hx, hb, hown, hts, hK, hN, hml, hr, hlk, hnm, hsz0⟩ := X
  intro H locs ls hR hA hz hS hl
  exact lv_iconst hx hb hd rfl (kk H locs ls hR hA hz hS hl)
theorem go_bipush (X : Cx l D cc own nm nL ret d mc ms sh0 sz0 Po g) {v : Int} (hd : decode cc pc = .ok (.bipush v, 2)) (hv : (Int8.ofInt v).toInt32 = Int32.ofInt v) (kk : Go g k n sh M sz (pc + 2) lv (vi v :: st)) : Go g k n sh M sz pc lv st := by
  obtain ⟨p, l', e, R, s, m, args, below, meth, c, D', A, Q, nL'⟩ := g
  obtain ⟨rfl, rfl, rfl, rfl, rfl, hQ, hx, hb, hown, hts, hK, hN, hml, hr, hlk, hnm, hsz0⟩ := X
  intro H locs ls hR hA hz hS hl
  exact lv_bipush hx hb hd hv (kk H locs ls hR hA hz hS hl)
theorem go_sipush (X : Cx l D cc own nm nL ret d mc ms sh0 sz0 Po g) {v : Int} (hd : decode cc pc = .ok (.sipush v, 3)) (hv : (Int16.ofInt v).toInt32 = Int32.ofInt v) (kk : Go g k n sh M sz (pc + 3) lv (vi v :: st)) : Go g k n sh M sz pc lv st := by
  obtain ⟨p, l', e, R, s, m, args, below, meth, c, D', A, Q, nL'⟩ := g
  obtain ⟨rfl, rfl, rfl, rfl, rfl, hQ, hx, hb, hown, hts, hK, hN, hml, hr, hlk, hnm, hsz0⟩ := X
  intro H locs ls hR hA hz hS hl
  exact lv_sipush hx hb hd hv (kk H locs ls hR hA hz hS hl)
theorem go_lconst (X : Cx l D cc own nm nL ret d mc ms sh0 sz0 Po g) {v : Fin 2} {x : Int} (hd : decode cc pc = .ok (.lconst v, 1)) (hv : Int64.ofNat (v : Nat) = Int64.ofInt x) (kk : Go g k n sh M sz (pc + 1) lv (vl x :: st)) : Go g k n sh M sz pc lv st := by
  obtain ⟨p, l', e, R, s, m, args, below, meth, c, D', A, Q, nL'⟩ := g
  obtain ⟨rfl, rfl, rfl, rfl, rfl, hQ, hx, hb, hown, hts, hK, hN, hml, hr, hlk, hnm, hsz0⟩ := X
  intro H locs ls hR hA hz hS hl
  exact lv_lconst hx hb hd hv (kk H locs ls hR hA hz hS hl)
theorem go_null (X : Cx l D cc own nm nL ret d mc ms sh0 sz0 Po g) (hd : decode cc pc = .ok (.aconst_null, 1)) (kk : Go g k n sh M sz (pc + 1) lv (.null :: st)) : Go g k n sh M sz pc lv st := by
  obtain ⟨p, l', e, R, s, m, args, below, meth, c, D', A, Q, nL'⟩ := g
  obtain ⟨rfl, rfl, rfl, rfl, rfl, hQ, hx, hb, hown, hts, hK, hN, hml, hr, hlk, hnm, hsz0⟩ := X
  intro H locs ls hR hA hz hS hl
  exact lv_null hx hb hd (kk H locs ls hR hA hz hS hl)
theorem go_ldc (X : Cx l D cc own nm nL ret d mc ms sh0 sz0 Po g) {ix : Nat} {v : Int32} {x : Int} (hw : Jvm.Cond.constant own ix v ∈ wAll) (hv : v = Int32.ofInt x) (hd : decode cc pc = .ok (.ldc ix, 2)) (kk : Go g k n sh M sz (pc + 2) lv (vi x :: st)) : Go g k n sh M sz pc lv st := by
  obtain ⟨p, l', e, R, s, m, args, below, meth, c, D', A, Q, nL'⟩ := g
  obtain ⟨rfl, rfl, rfl, rfl, rfl, hQ, hx, hb, hown, hts, hK, hN, hml, hr, hlk, hnm, hsz0⟩ := X
  intro H locs ls hR hA hz hS hl
  exact lv_ldc hx hb hown (hts _ (hv ▸ hw)) hd (kk H locs ls hR hA hz hS hl)
theorem go_ldc2 (X : Cx l D cc own nm nL ret d mc ms sh0 sz0 Po g) {ix : Nat} {v : Int64} {x : Int} (hw : Jvm.Cond.constantLong own ix v ∈ wAll) (hv : v = Int64.ofInt x) (hd : decode cc pc = .ok (.ldc2_w ix, 3)) (kk : Go g k n sh M sz (pc + 3) lv (vl x :: st)) : Go g k n sh M sz pc lv st := by
  obtain ⟨p, l', e, R, s, m, args, below, meth, c, D', A, Q, nL'⟩ := g
  obtain ⟨rfl, rfl, rfl, rfl, rfl, hQ, hx, hb, hown, hts, hK, hN, hml, hr, hlk, hnm, hsz0⟩ := X
  intro H locs ls hR hA hz hS hl
  exact lv_ldc2 hx hb hown (hts _ (hv ▸ hw)) hd (kk H locs ls hR hA hz hS hl)
theorem go_iload_n (X : Cx l D cc own nm nL ret d mc ms sh0 sz0 Po g) {i : Fin 4} {j : Nat} {x : Int} (hd : decode cc pc = .ok (.iload_n i, 1)) (hi : (i : Nat) = j) (hv : g_ld lv j = some (vi x)) (kk : Go g k n sh M sz (pc + 1) lv (vi x :: st)) : Go g k n sh M sz pc lv st := by
  obtain ⟨p, l', e, R, s, m, args, below, meth, c, D', A, Q, nL'⟩ := g
  obtain ⟨rfl, rfl, rfl, rfl, rfl, hQ, hx, hb, hown, hts, hK, hN, hml, hr, hlk, hnm, hsz0⟩ := X
  intro H locs ls hR hA hz hS hl
  exact lv_iload_n hx hb hd hi (g_ld_at hv hl) (kk H locs ls hR hA hz hS hl)
theorem go_iload (X : Cx l D cc own nm nL ret d mc ms sh0 sz0 Po g) {i : Nat} {x : Int} (hd : decode cc pc = .ok (.iload i, 2)) (hv : g_ld lv i = some (vi x)) (kk : Go g k n sh M sz (pc + 2) lv (vi x :: st)) : Go g k n sh M sz pc lv st := by
  obtain ⟨p, l', e, R, s, m, args, below, meth, c, D', A, Q, nL'⟩ := g
  obtain ⟨rfl, rfl, rfl, rfl, rfl, hQ, hx, hb, hown, hts, hK, hN, hml, hr, hlk, hnm, hsz0⟩ := X
  intro H locs ls hR hA hz hS hl
  exact lv_iload hx hb hd (g_ld_at hv hl) (kk H locs ls hR hA hz hS hl)
theorem go_lload_n (X : Cx l D cc own nm nL ret d mc ms sh0 sz0 Po g) {i : Fin 4} {j : Nat} {x : Int} (hd : decode cc pc = .ok (.lload_n i, 1)) (hi : (i : Nat) = j) (hv : g_ld lv j = some (vl x)) (kk : Go g k n sh M sz (pc + 1) lv (vl x :: st)) : Go g k n sh M sz pc lv st := by
  obtain ⟨p, l', e, R, s, m, args, below, meth, c, D', A, Q, nL'⟩ := g
  obtain ⟨rfl, rfl, rfl, rfl, rfl, hQ, hx, hb, hown, hts, hK, hN, hml, hr, hlk, hnm, hsz0⟩ := X
  intro H locs ls hR hA hz hS hl
  exact lv_lload_n hx hb hd hi (g_ld_at hv hl) (kk H locs ls hR hA hz hS hl)
theorem go_lload (X : Cx l D cc own nm nL ret d mc ms sh0 sz0 Po g) {i : Nat} {x : Int} (hd : decode cc pc = .ok (.lload i, 2)) (hv : g_ld lv i = some (vl x)) (kk : Go g k n sh M sz (pc + 2) lv (vl x :: st)) : Go g k n sh M sz pc lv st := by
  obtain ⟨p, l', e, R, s, m, args, below, meth, c, D', A, Q, nL'⟩ := g
  obtain ⟨rfl, rfl, rfl, rfl, rfl, hQ, hx, hb, hown, hts, hK, hN, hml, hr, hlk, hnm, hsz0⟩ := X
  intro H locs ls hR hA hz hS hl
  exact lv_lload hx hb hd (g_ld_at hv hl) (kk H locs ls hR hA hz hS hl)
theorem go_aload_n (X : Cx l D cc own nm nL ret d mc ms sh0 sz0 Po g) {i : Fin 4} {j : Nat} {x : Int} (hd : decode cc pc = .ok (.aload_n i, 1)) (hi : (i : Nat) = j) (hv : g_ld lv j = some (vr x)) (kk : Go g k n sh M sz (pc + 1) lv (vr x :: st)) : Go g k n sh M sz pc lv st := by
  obtain ⟨p, l', e, R, s, m, args, below, meth, c, D', A, Q, nL'⟩ := g
  obtain ⟨rfl, rfl, rfl, rfl, rfl, hQ, hx, hb, hown, hts, hK, hN, hml, hr, hlk, hnm, hsz0⟩ := X
  intro H locs ls hR hA hz hS hl
  exact lv_aload_n hx hb hd hi (g_ld_at hv hl) (kk H locs ls hR hA hz hS hl)
theorem go_aload (X : Cx l D cc own nm nL ret d mc ms sh0 sz0 Po g) {i : Nat} {x : Int} (hd : decode cc pc = .ok (.aload i, 2)) (hv : g_ld lv i = some (vr x)) (kk : Go g k n sh M sz (pc + 2) lv (vr x :: st)) : Go g k n sh M sz pc lv st := by
  obtain ⟨p, l', e, R, s, m, args, below, meth, c, D', A, Q, nL'⟩ := g
  obtain ⟨rfl, rfl, rfl, rfl, rfl, hQ, hx, hb, hown, hts, hK, hN, hml, hr, hlk, hnm, hsz0⟩ := X
  intro H locs ls hR hA hz hS hl
  exact lv_aload hx hb hd (g_ld_at hv hl) (kk H locs ls hR hA hz hS hl)
theorem go_aload_nN (X : Cx l D cc own nm nL ret d mc ms sh0 sz0 Po g) {i : Fin 4} {j : Nat} (hd : decode cc pc = .ok (.aload_n i, 1)) (hi : (i : Nat) = j) (hv : g_ld lv j = some .null) (kk : Go g k n sh M sz (pc + 1) lv (.null :: st)) : Go g k n sh M sz pc lv st := by
  obtain ⟨p, l', e, R, s, m, args, below, meth, c, D', A, Q, nL'⟩ := g
  obtain ⟨rfl, rfl, rfl, rfl, rfl, hQ, hx, hb, hown, hts, hK, hN, hml, hr, hlk, hnm, hsz0⟩ := X
  intro H locs ls hR hA hz hS hl
  exact lv_aload_nN hx hb hd hi (g_ld_at hv hl) (kk H locs ls hR hA hz hS hl)
theorem go_aloadN (X : Cx l D cc own nm nL ret d mc ms sh0 sz0 Po g) {i : Nat} (hd : decode cc pc = .ok (.aload i, 2)) (hv : g_ld lv i = some .null) (kk : Go g k n sh M sz (pc + 2) lv (.null :: st)) : Go g k n sh M sz pc lv st := by
  obtain ⟨p, l', e, R, s, m, args, below, meth, c, D', A, Q, nL'⟩ := g
  obtain ⟨rfl, rfl, rfl, rfl, rfl, hQ, hx, hb, hown, hts, hK, hN, hml, hr, hlk, hnm, hsz0⟩ := X
  intro H locs ls hR hA hz hS hl
  exact lv_aloadN hx hb hd (g_ld_at hv hl) (kk H locs ls hR hA hz hS hl)
theorem go_istore_n (X : Cx l D cc own nm nL ret d mc ms sh0 sz0 Po g) {i : Fin 4} {j : Nat} {x : Int} (hd : decode cc pc = .ok (.istore_n i, 1)) (hi : (i : Nat) = j) (hn : j < nL) (hlv : g_s1 lv j (vi x) = lv') (kk : Go g k n sh M sz (pc + 1) lv' r) : Go g k n sh M sz pc lv (vi x :: r) := by
  obtain ⟨p, l', e, R, s, m, args, below, meth, c, D', A, Q, nL'⟩ := g
  obtain ⟨rfl, rfl, rfl, rfl, rfl, hQ, hx, hb, hown, hts, hK, hN, hml, hr, hlk, hnm, hsz0⟩ := X
  intro H locs ls hR hA hz hS hl
  exact lv_istore_n hx hb hd hi hl hn hlv (fun ls' hl' => kk H locs ls' hR hA hz hS hl')
theorem go_istore (X : Cx l D cc own nm nL ret d mc ms sh0 sz0 Po g) {i : Nat} {x : Int} (hd : decode cc pc = .ok (.istore i, 2)) (hn : i < nL) (hlv : g_s1 lv i (vi x) = lv') (kk : Go g k n sh M sz (pc + 2) lv' r) : Go g k n sh M sz pc lv (vi x :: r) := by
  obtain ⟨p, l', e, R, s, m, args, below, meth, c, D', A, Q, nL'⟩ := g
  obtain ⟨rfl, rfl, rfl, rfl, rfl, hQ, hx, hb, hown, hts, hK, hN, hml, hr, hlk, hnm, hsz0⟩ := X
  intro H locs ls hR hA hz hS hl
  exact lv_istore hx hb hd hl hn hlv (fun ls' hl' => kk H locs ls' hR hA hz hS hl')
theorem go_lstore_n (X : Cx l D cc own nm nL ret d mc ms sh0 sz0 Po g) {i : Fin 4} {j : Nat} {x : Int} (hd : decode cc pc = .ok (.lstore_n i, 1)) (hi : (i : Nat) = j) (hn : j + 1 < nL) (hlv : g_s2 lv j (vl x) = lv') (kk : Go g k n sh M sz (pc + 1) lv' r) : Go g k n sh M sz pc lv (vl x :: r) := by
  obtain ⟨p, l', e, R, s, m, args, below, meth, c, D', A, Q, nL'⟩ := g
  obtain ⟨rfl, rfl, rfl, rfl, rfl, hQ, hx, hb, hown, hts, hK, hN, hml, hr, hlk, hnm, hsz0⟩ := X
  intro H locs ls hR hA hz hS hl
  exact lv_lstore_n hx hb hd hi hl hn hlv (fun ls' hl' => kk H locs ls' hR hA hz hS hl')
theorem go_lstore (X : Cx l D cc own nm nL ret d mc ms sh0 sz0 Po g) {i : Nat} {x : Int} (hd : decode cc pc = .ok (.lstore i, 2)) (hn : i + 1 < nL) (hlv : g_s2 lv i (vl x) = lv') (kk : Go g k n sh M sz (pc + 2) lv' r) : Go g k n sh M sz pc lv (vl x :: r) := by
  obtain ⟨p, l', e, R, s, m, args, below, meth, c, D', A, Q, nL'⟩ := g
  obtain ⟨rfl, rfl, rfl, rfl, rfl, hQ, hx, hb, hown, hts, hK, hN, hml, hr, hlk, hnm, hsz0⟩ := X
  intro H locs ls hR hA hz hS hl
  exact lv_lstore hx hb hd hl hn hlv (fun ls' hl' => kk H locs ls' hR hA hz hS hl')
theorem go_astore_n (X : Cx l D cc own nm nL ret d mc ms sh0 sz0 Po g) {i : Fin 4} {j : Nat} {x : Int} (hd : decode cc pc = .ok (.astore_n i, 1)) (hi : (i : Nat) = j) (hn : j < nL) (hlv : g_s1 lv j (vr x) = lv') (kk : Go g k n sh M sz (pc + 1) lv' r) : Go g k n sh M sz pc lv (vr x :: r) := by
  obtain ⟨p, l', e, R, s, m, args, below, meth, c, D', A, Q, nL'⟩ := g
  obtain ⟨rfl, rfl, rfl, rfl, rfl, hQ, hx, hb, hown, hts, hK, hN, hml, hr, hlk, hnm, hsz0⟩ := X
  intro H locs ls hR hA hz hS hl
  exact lv_astore_n hx hb hd hi hl hn hlv (fun ls' hl' => kk H locs ls' hR hA hz hS hl')
theorem go_astore (X : Cx l D cc own nm nL ret d mc ms sh0 sz0 Po g) {i : Nat} {x : Int} (hd : decode cc pc = .ok (.astore i, 2)) (hn : i < nL) (hlv : g_s1 lv i (vr x) = lv') (kk : Go g k n sh M sz (pc + 2) lv' r) : Go g k n sh M sz pc lv (vr x :: r) := by
  obtain ⟨p, l', e, R, s, m, args, below, meth, c, D', A, Q, nL'⟩ := g
  obtain ⟨rfl, rfl, rfl, rfl, rfl, hQ, hx, hb, hown, hts, hK, hN, hml, hr, hlk, hnm, hsz0⟩ := X
  intro H locs ls hR hA hz hS hl
  exact lv_astore hx hb hd hl hn hlv (fun ls' hl' => kk H locs ls' hR hA hz hS hl')
theorem go_astore_nN (X : Cx l D cc own nm nL ret d mc ms sh0 sz0 Po g) {i : Fin 4} {j : Nat} (hd : decode cc pc = .ok (.astore_n i, 1)) (hi : (i : Nat) = j) (hn : j < nL) (hlv : g_s1 lv j (.null) = lv') (kk : Go g k n sh M sz (pc + 1) lv' r) : Go g k n sh M sz pc lv (.null :: r) := by
  obtain ⟨p, l', e, R, s, m, args, below, meth, c, D', A, Q, nL'⟩ := g
  obtain ⟨rfl, rfl, rfl, rfl, rfl, hQ, hx, hb, hown, hts, hK, hN, hml, hr, hlk, hnm, hsz0⟩ := X
  intro H locs ls hR hA hz hS hl
  exact lv_astore_nN hx hb hd hi hl hn hlv (fun ls' hl' => kk H locs ls' hR hA hz hS hl')
theorem go_astoreN (X : Cx l D cc own nm nL ret d mc ms sh0 sz0 Po g) {i : Nat} (hd : decode cc pc = .ok (.astore i, 2)) (hn : i < nL) (hlv : g_s1 lv i (.null) = lv') (kk : Go g k n sh M sz (pc + 2) lv' r) : Go g k n sh M sz pc lv (.null :: r) := by
  obtain ⟨p, l', e, R, s, m, args, below, meth, c, D', A, Q, nL'⟩ := g
  obtain ⟨rfl, rfl, rfl, rfl, rfl, hQ, hx, hb, hown, hts, hK, hN, hml, hr, hlk, hnm, hsz0⟩ := X
  intro H locs ls hR hA hz hS hl
  exact lv_astoreN hx hb hd hl hn hlv (fun ls' hl' => kk H locs ls' hR hA hz hS hl')
theorem go_iinc (X : Cx l D cc own nm nL ret d mc ms sh0 sz0 Po g) {i : Nat} {v x : Int} (hd : decode cc pc = .ok (.iinc i v, 3)) (hv : g_ld lv i = some (vi x)) (hn : i < nL) (hlv : g_s1 lv i (vi (x + v)) = lv') (kk : Go g k n sh M sz (pc + 3) lv' st) : Go g k n sh M sz pc lv st := by
  obtain ⟨p, l', e, R, s, m, args, below, meth, c, D', A, Q, nL'⟩ := g
  obtain ⟨rfl, rfl, rfl, rfl, rfl, hQ, hx, hb, hown, hts, hK, hN, hml, hr, hlk, hnm, hsz0⟩ := X
  intro H locs ls hR hA hz hS hl
  obtain ⟨kx, hkx⟩ := g_ld_k hv
  exact lv_iinc hx hb hd hl hkx (n_add x v) hn hlv (fun ls' hl' => kk H locs ls' hR hA hz hS hl')
theorem go_lv (X : Cx l D cc own nm nL ret d mc ms sh0 sz0 Po g) (ks : List Nat) (h : lv_pick lv ks = lv') (kk : Go g k n sh M sz pc lv' st) : Go g k n sh M sz pc lv st := by
  obtain ⟨p, l', e, R, s, m, args, below, meth, c, D', A, Q, nL'⟩ := g
  obtain ⟨rfl, rfl, rfl, rfl, rfl, hQ, hx, hb, hown, hts, hK, hN, hml, hr, hlk, hnm, hsz0⟩ := X
  intro H locs ls hR hA hz hS hl
  exact kk H locs ls hR hA hz hS (lv_sub hl ks h)
theorem go_iadd (X : Cx l D cc own nm nL ret d mc ms sh0 sz0 Po g) {x y : Int}  (hd : decode cc pc = .ok (.iadd, 1)) (kk : Go g k n sh M sz (pc + 1) lv (vi (x + y) :: r)) : Go g k n sh M sz pc lv (vi y :: vi x :: r) := by
  obtain ⟨p, l', e, R, s, m, args, below, meth, c, D', A, Q, nL'⟩ := g
  obtain ⟨rfl, rfl, rfl, rfl, rfl, hQ, hx, hb, hown, hts, hK, hN, hml, hr, hlk, hnm, hsz0⟩ := X
  intro H locs ls hR hA hz hS hl
  refine lv_iadd hx hb hd ?_
  rw [n_add]
  exact kk H locs ls hR hA hz hS hl
theorem go_isub (X : Cx l D cc own nm nL ret d mc ms sh0 sz0 Po g) {x y : Int}  (hd : decode cc pc = .ok (.isub, 1)) (kk : Go g k n sh M sz (pc + 1) lv (vi (x - y) :: r)) : Go g k n sh M sz pc lv (vi y :: vi x :: r) := by
  obtain ⟨p, l', e, R, s, m, args, below, meth, c, D', A, Q, nL'⟩ := g
  obtain ⟨rfl, rfl, rfl, rfl, rfl, hQ, hx, hb, hown, hts, hK, hN, hml, hr, hlk, hnm, hsz0⟩ := X
  intro H locs ls hR hA hz hS hl
  refine lv_isub hx hb hd ?_
  rw [n_sub]
  exact kk H locs ls hR hA hz hS hl
theorem go_imul (X : Cx l D cc own nm nL ret d mc ms sh0 sz0 Po g) {x y : Int}  (hd : decode cc pc = .ok (.imul, 1)) (kk : Go g k n sh M sz (pc + 1) lv (vi (x * y) :: r)) : Go g k n sh M sz pc lv (vi y :: vi x :: r) := by
  obtain ⟨p, l', e, R, s, m, args, below, meth, c, D', A, Q, nL'⟩ := g
  obtain ⟨rfl, rfl, rfl, rfl, rfl, hQ, hx, hb, hown, hts, hK, hN, hml, hr, hlk, hnm, hsz0⟩ := X
  intro H locs ls hR hA hz hS hl
  refine lv_imul hx hb hd ?_
  rw [n_mul]
  exact kk H locs ls hR hA hz hS hl
theorem go_ladd (X : Cx l D cc own nm nL ret d mc ms sh0 sz0 Po g) {x y : Int}  (hd : decode cc pc = .ok (.ladd, 1)) (kk : Go g k n sh M sz (pc + 1) lv (vl (x + y) :: r)) : Go g k n sh M sz pc lv (vl y :: vl x :: r) := by
  obtain ⟨p, l', e, R, s, m, args, below, meth, c, D', A, Q, nL'⟩ := g
  obtain ⟨rfl, rfl, rfl, rfl, rfl, hQ, hx, hb, hown, hts, hK, hN, hml, hr, hlk, hnm, hsz0⟩ := X
  intro H locs ls hR hA hz hS hl
  refine lv_ladd hx hb hd ?_
  rw [l_add]
  exact kk H locs ls hR hA hz hS hl
theorem go_lsub (X : Cx l D cc own nm nL ret d mc ms sh0 sz0 Po g) {x y : Int}  (hd : decode cc pc = .ok (.lsub, 1)) (kk : Go g k n sh M sz (pc + 1) lv (vl (x - y) :: r)) : Go g k n sh M sz pc lv (vl y :: vl x :: r) := by
  obtain ⟨p, l', e, R, s, m, args, below, meth, c, D', A, Q, nL'⟩ := g
  obtain ⟨rfl, rfl, rfl, rfl, rfl, hQ, hx, hb, hown, hts, hK, hN, hml, hr, hlk, hnm, hsz0⟩ := X
  intro H locs ls hR hA hz hS hl
  refine lv_lsub hx hb hd ?_
  rw [l_sub]
  exact kk H locs ls hR hA hz hS hl
theorem go_lcmp (X : Cx l D cc own nm nL ret d mc ms sh0 sz0 Po g) {x y : Int} (hx1 : -9223372036854775808 ≤ x ∧ x < 9223372036854775808) (hy1 : -9223372036854775808 ≤ y ∧ y < 9223372036854775808) (hd : decode cc pc = .ok (.lcmp, 1)) (kk : Go g k n sh M sz (pc + 1) lv (vi (s_cmp x y) :: r)) : Go g k n sh M sz pc lv (vl y :: vl x :: r) := by
  obtain ⟨p, l', e, R, s, m, args, below, meth, c, D', A, Q, nL'⟩ := g
  obtain ⟨rfl, rfl, rfl, rfl, rfl, hQ, hx, hb, hown, hts, hK, hN, hml, hr, hlk, hnm, hsz0⟩ := X
  intro H locs ls hR hA hz hS hl
  refine W.lcmp hx hb hd ?_
  rw [l_cmp hx1 hy1]
  exact kk H locs ls hR hA hz hS hl
theorem go_iand (X : Cx l D cc own nm nL ret d mc ms sh0 sz0 Po g) {x y z : Int} (hd : decode cc pc = .ok (.iand, 1)) (he : Int32.ofInt x &&& Int32.ofInt y = Int32.ofInt z) (kk : Go g k n sh M sz (pc + 1) lv (vi z :: r)) : Go g k n sh M sz pc lv (vi y :: vi x :: r) := by
  obtain ⟨p, l', e, R, s, m, args, below, meth, c, D', A, Q, nL'⟩ := g
  obtain ⟨rfl, rfl, rfl, rfl, rfl, hQ, hx, hb, hown, hts, hK, hN, hml, hr, hlk, hnm, hsz0⟩ := X
  intro H locs ls hR hA hz hS hl
  refine lv_iand hx hb hd ?_
  rw [he]
  exact kk H locs ls hR hA hz hS hl
theorem go_ior (X : Cx l D cc own nm nL ret d mc ms sh0 sz0 Po g) {x y z : Int} (hd : decode cc pc = .ok (.ior, 1)) (he : Int32.ofInt x ||| Int32.ofInt y = Int32.ofInt z) (kk : Go g k n sh M sz (pc + 1) lv (vi z :: r)) : Go g k n sh M sz pc lv (vi y :: vi x :: r) := by
  obtain ⟨p, l', e, R, s, m, args, below, meth, c, D', A, Q, nL'⟩ := g
  obtain ⟨rfl, rfl, rfl, rfl, rfl, hQ, hx, hb, hown, hts, hK, hN, hml, hr, hlk, hnm, hsz0⟩ := X
  intro H locs ls hR hA hz hS hl
  refine lv_ior hx hb hd ?_
  rw [he]
  exact kk H locs ls hR hA hz hS hl
theorem go_ixor (X : Cx l D cc own nm nL ret d mc ms sh0 sz0 Po g) {x y z : Int} (hd : decode cc pc = .ok (.ixor, 1)) (he : Int32.ofInt x ^^^ Int32.ofInt y = Int32.ofInt z) (kk : Go g k n sh M sz (pc + 1) lv (vi z :: r)) : Go g k n sh M sz pc lv (vi y :: vi x :: r) := by
  obtain ⟨p, l', e, R, s, m, args, below, meth, c, D', A, Q, nL'⟩ := g
  obtain ⟨rfl, rfl, rfl, rfl, rfl, hQ, hx, hb, hown, hts, hK, hN, hml, hr, hlk, hnm, hsz0⟩ := X
  intro H locs ls hR hA hz hS hl
  refine lv_ixor hx hb hd ?_
  rw [he]
  exact kk H locs ls hR hA hz hS hl
theorem go_land (X : Cx l D cc own nm nL ret d mc ms sh0 sz0 Po g) {x y z : Int} (hd : decode cc pc = .ok (.land, 1)) (he : Int64.ofInt x &&& Int64.ofInt y = Int64.ofInt z) (kk : Go g k n sh M sz (pc + 1) lv (vl z :: r)) : Go g k n sh M sz pc lv (vl y :: vl x :: r) := by
  obtain ⟨p, l', e, R, s, m, args, below, meth, c, D', A, Q, nL'⟩ := g
  obtain ⟨rfl, rfl, rfl, rfl, rfl, hQ, hx, hb, hown, hts, hK, hN, hml, hr, hlk, hnm, hsz0⟩ := X
  intro H locs ls hR hA hz hS hl
  refine lv_land hx hb hd ?_
  rw [he]
  exact kk H locs ls hR hA hz hS hl
theorem go_lor (X : Cx l D cc own nm nL ret d mc ms sh0 sz0 Po g) {x y z : Int} (hd : decode cc pc = .ok (.lor, 1)) (he : Int64.ofInt x ||| Int64.ofInt y = Int64.ofInt z) (kk : Go g k n sh M sz (pc + 1) lv (vl z :: r)) : Go g k n sh M sz pc lv (vl y :: vl x :: r) := by
  obtain ⟨p, l', e, R, s, m, args, below, meth, c, D', A, Q, nL'⟩ := g
  obtain ⟨rfl, rfl, rfl, rfl, rfl, hQ, hx, hb, hown, hts, hK, hN, hml, hr, hlk, hnm, hsz0⟩ := X
  intro H locs ls hR hA hz hS hl
  refine lv_lor hx hb hd ?_
  rw [he]
  exact kk H locs ls hR hA hz hS hl
theorem go_lxor (X : Cx l D cc own nm nL ret d mc ms sh0 sz0 Po g) {x y z : Int} (hd : decode cc pc = .ok (.lxor, 1)) (he : Int64.ofInt x ^^^ Int64.ofInt y = Int64.ofInt z) (kk : Go g k n sh M sz (pc + 1) lv (vl z :: r)) : Go g k n sh M sz pc lv (vl y :: vl x :: r) := by
  obtain ⟨p, l', e, R, s, m, args, below, meth, c, D', A, Q, nL'⟩ := g
  obtain ⟨rfl, rfl, rfl, rfl, rfl, hQ, hx, hb, hown, hts, hK, hN, hml, hr, hlk, hnm, hsz0⟩ := X
  intro H locs ls hR hA hz hS hl
  refine lv_lxor hx hb hd ?_
  rw [he]
  exact kk H locs ls hR hA hz hS hl
theorem go_lshl (X : Cx l D cc own nm nL ret d mc ms sh0 sz0 Po g) {x y z : Int} (hd : decode cc pc = .ok (.lshl, 1)) (he : Int64.ofInt x <<< ((Int32.ofInt y).toInt64 &&& 63) = Int64.ofInt z) (kk : Go g k n sh M sz (pc + 1) lv (vl z :: r)) : Go g k n sh M sz pc lv (vi y :: vl x :: r) := by
  obtain ⟨p, l', e, R, s, m, args, below, meth, c, D', A, Q, nL'⟩ := g
  obtain ⟨rfl, rfl, rfl, rfl, rfl, hQ, hx, hb, hown, hts, hK, hN, hml, hr, hlk, hnm, hsz0⟩ := X
  intro H locs ls hR hA hz hS hl
  exact lv_lshl hx hb hd he (kk H locs ls hR hA hz hS hl)
theorem go_lshr (X : Cx l D cc own nm nL ret d mc ms sh0 sz0 Po g) {x y z : Int} (hd : decode cc pc = .ok (.lshr, 1)) (he : Int64.ofInt x >>> ((Int32.ofInt y).toInt64 &&& 63) = Int64.ofInt z) (kk : Go g k n sh M sz (pc + 1) lv (vl z :: r)) : Go g k n sh M sz pc lv (vi y :: vl x :: r) := by
  obtain ⟨p, l', e, R, s, m, args, below, meth, c, D', A, Q, nL'⟩ := g
  obtain ⟨rfl, rfl, rfl, rfl, rfl, hQ, hx, hb, hown, hts, hK, hN, hml, hr, hlk, hnm, hsz0⟩ := X
  intro H locs ls hR hA hz hS hl
  exact lv_lshr hx hb hd he (kk H locs ls hR hA hz hS hl)
theorem go_lushr (X : Cx l D cc own nm nL ret d mc ms sh0 sz0 Po g) {x y z : Int} (hd : decode cc pc = .ok (.lushr, 1)) (he : ((Int64.ofInt x).toUInt64 >>> ((Int32.ofInt y).toInt64.toUInt64 &&& Int64.toUInt64 63)).toInt64 = Int64.ofInt z) (kk : Go g k n sh M sz (pc + 1) lv (vl z :: r)) : Go g k n sh M sz pc lv (vi y :: vl x :: r) := by
  obtain ⟨p, l', e, R, s, m, args, below, meth, c, D', A, Q, nL'⟩ := g
  obtain ⟨rfl, rfl, rfl, rfl, rfl, hQ, hx, hb, hown, hts, hK, hN, hml, hr, hlk, hnm, hsz0⟩ := X
  intro H locs ls hR hA hz hS hl
  exact lv_lushr hx hb hd he (kk H locs ls hR hA hz hS hl)
theorem go_i2l (X : Cx l D cc own nm nL ret d mc ms sh0 sz0 Po g) {x : Int} (hd : decode cc pc = .ok (.i2l, 1)) (hx1 : -2147483648 ≤ x ∧ x < 2147483648) (kk : Go g k n sh M sz (pc + 1) lv (vl x :: r)) : Go g k n sh M sz pc lv (vi x :: r) := by
  obtain ⟨p, l', e, R, s, m, args, below, meth, c, D', A, Q, nL'⟩ := g
  obtain ⟨rfl, rfl, rfl, rfl, rfl, hQ, hx, hb, hown, hts, hK, hN, hml, hr, hlk, hnm, hsz0⟩ := X
  intro H locs ls hR hA hz hS hl
  exact lv_i2l hx hb hd (n_wide hx1) (kk H locs ls hR hA hz hS hl)
theorem go_l2i (X : Cx l D cc own nm nL ret d mc ms sh0 sz0 Po g) {x : Int} (hd : decode cc pc = .ok (.l2i, 1)) (kk : Go g k n sh M sz (pc + 1) lv (vi x :: r)) : Go g k n sh M sz pc lv (vl x :: r) := by
  obtain ⟨p, l', e, R, s, m, args, below, meth, c, D', A, Q, nL'⟩ := g
  obtain ⟨rfl, rfl, rfl, rfl, rfl, hQ, hx, hb, hown, hts, hK, hN, hml, hr, hlk, hnm, hsz0⟩ := X
  intro H locs ls hR hA hz hS hl
  exact lv_l2i hx hb hd (l_narrow x) (kk H locs ls hR hA hz hS hl)
theorem go_i2c (X : Cx l D cc own nm nL ret d mc ms sh0 sz0 Po g) {x : Int} (hd : decode cc pc = .ok (.i2c, 1)) (he : ((Int32.ofInt x).toUInt32 % 65536).toInt32 = Int32.ofInt x) (kk : Go g k n sh M sz (pc + 1) lv (vi x :: r)) : Go g k n sh M sz pc lv (vi x :: r) := by
  obtain ⟨p, l', e, R, s, m, args, below, meth, c, D', A, Q, nL'⟩ := g
  obtain ⟨rfl, rfl, rfl, rfl, rfl, hQ, hx, hb, hown, hts, hK, hN, hml, hr, hlk, hnm, hsz0⟩ := X
  intro H locs ls hR hA hz hS hl
  exact lv_i2c hx hb hd he (kk H locs ls hR hA hz hS hl)
theorem go_ldiv (X : Cx l D cc own nm nL ret d mc ms sh0 sz0 Po g) {x y z : Int} (hd : decode cc pc = .ok (.ldiv, 1)) (hne : ¬ Int64.ofInt y = 0) (he : Int64.ofInt x / Int64.ofInt y = Int64.ofInt z) (kk : Go g k n sh M sz (pc + 1) lv (vl z :: r)) : Go g k n sh M sz pc lv (vl y :: vl x :: r) := by
  obtain ⟨p, l', e, R, s, m, args, below, meth, c, D', A, Q, nL'⟩ := g
  obtain ⟨rfl, rfl, rfl, rfl, rfl, hQ, hx, hb, hown, hts, hK, hN, hml, hr, hlk, hnm, hsz0⟩ := X
  intro H locs ls hR hA hz hS hl
  refine lv_ldiv hx hb hd hne ?_
  rw [he]
  exact kk H locs ls hR hA hz hS hl
theorem go_lrem (X : Cx l D cc own nm nL ret d mc ms sh0 sz0 Po g) {x y z : Int} (hd : decode cc pc = .ok (.lrem, 1)) (hne : ¬ Int64.ofInt y = 0) (he : Int64.ofInt x - Int64.ofInt x / Int64.ofInt y * Int64.ofInt y = Int64.ofInt z) (kk : Go g k n sh M sz (pc + 1) lv (vl z :: r)) : Go g k n sh M sz pc lv (vl y :: vl x :: r) := by
  obtain ⟨p, l', e, R, s, m, args, below, meth, c, D', A, Q, nL'⟩ := g
  obtain ⟨rfl, rfl, rfl, rfl, rfl, hQ, hx, hb, hown, hts, hK, hN, hml, hr, hlk, hnm, hsz0⟩ := X
  intro H locs ls hR hA hz hS hl
  refine lv_lrem hx hb hd hne ?_
  rw [he]
  exact kk H locs ls hR hA hz hS hl
theorem go_dup (X : Cx l D cc own nm nL ret d mc ms sh0 sz0 Po g) {v : Value} (hd : decode cc pc = .ok (.dup, 1)) (hc : v.category = 1) (kk : Go g k n sh M sz (pc + 1) lv (v :: v :: r)) : Go g k n sh M sz pc lv (v :: r) := by
  obtain ⟨p, l', e, R, s, m, args, below, meth, c, D', A, Q, nL'⟩ := g
  obtain ⟨rfl, rfl, rfl, rfl, rfl, hQ, hx, hb, hown, hts, hK, hN, hml, hr, hlk, hnm, hsz0⟩ := X
  intro H locs ls hR hA hz hS hl
  exact lv_dup hx hb hd hc (kk H locs ls hR hA hz hS hl)
theorem go_pop (X : Cx l D cc own nm nL ret d mc ms sh0 sz0 Po g) {v : Value} (hd : decode cc pc = .ok (.pop, 1)) (hc : v.category = 1) (kk : Go g k n sh M sz (pc + 1) lv r) : Go g k n sh M sz pc lv (v :: r) := by
  obtain ⟨p, l', e, R, s, m, args, below, meth, c, D', A, Q, nL'⟩ := g
  obtain ⟨rfl, rfl, rfl, rfl, rfl, hQ, hx, hb, hown, hts, hK, hN, hml, hr, hlk, hnm, hsz0⟩ := X
  intro H locs ls hR hA hz hS hl
  exact lv_pop hx hb hd hc (kk H locs ls hR hA hz hS hl)
theorem go_dup2 (X : Cx l D cc own nm nL ret d mc ms sh0 sz0 Po g) {v u : Value} (hd : decode cc pc = .ok (.dup2, 1)) (hc : v.category = 1) (hc2 : u.category = 1) (kk : Go g k n sh M sz (pc + 1) lv (v :: u :: v :: u :: r)) : Go g k n sh M sz pc lv (v :: u :: r) := by
  obtain ⟨p, l', e, R, s, m, args, below, meth, c, D', A, Q, nL'⟩ := g
  obtain ⟨rfl, rfl, rfl, rfl, rfl, hQ, hx, hb, hown, hts, hK, hN, hml, hr, hlk, hnm, hsz0⟩ := X
  intro H locs ls hR hA hz hS hl
  exact lv_dup2_11 hx hb hd hc hc2 (kk H locs ls hR hA hz hS hl)
theorem go_if_eq (X : Cx l D cc own nm nL ret d mc ms sh0 sz0 Po g) {x : Int} {off : Int} {tgt : Nat} (hd : decode cc pc = .ok (.ifCond .eq off, 3)) (ht : (pc : Int) + off = (tgt : Int)) (hx1 : -2147483648 ≤ x ∧ x < 2147483648) (kt : x = 0 → Go g k n sh M sz tgt lv r) (kf : x ≠ 0 → Go g k n sh M sz (pc + 3) lv r) : Go g k n sh M sz pc lv (vi x :: r) := by
  obtain ⟨p, l', e, R, s, m, args, below, meth, c, D', A, Q, nL'⟩ := g
  obtain ⟨rfl, rfl, rfl, rfl, rfl, hQ, hx, hb, hown, hts, hK, hN, hml, hr, hlk, hnm, hsz0⟩ := X
  intro H locs ls hR hA hz hS hl
  refine lv_if_eq hx hb hd ht (fun h => kt ?_ H locs ls hR hA hz hS hl) (fun h => kf ?_ H locs ls hR hA hz hS hl)
  all_goals rw [n_0, n_eq hx1 (y := 0) (by omega)] at h
  all_goals omega
theorem go_if_ne (X : Cx l D cc own nm nL ret d mc ms sh0 sz0 Po g) {x : Int} {off : Int} {tgt : Nat} (hd : decode cc pc = .ok (.ifCond .ne off, 3)) (ht : (pc : Int) + off = (tgt : Int)) (hx1 : -2147483648 ≤ x ∧ x < 2147483648) (kt : x ≠ 0 → Go g k n sh M sz tgt lv r) (kf : x = 0 → Go g k n sh M sz (pc + 3) lv r) : Go g k n sh M sz pc lv (vi x :: r) := by
  obtain ⟨p, l', e, R, s, m, args, below, meth, c, D', A, Q, nL'⟩ := g
  obtain ⟨rfl, rfl, rfl, rfl, rfl, hQ, hx, hb, hown, hts, hK, hN, hml, hr, hlk, hnm, hsz0⟩ := X
  intro H locs ls hR hA hz hS hl
  refine lv_if_ne hx hb hd ht (fun h => kt ?_ H locs ls hR hA hz hS hl) (fun h => kf ?_ H locs ls hR hA hz hS hl)
  all_goals rw [n_0, n_eq hx1 (y := 0) (by omega)] at h
  all_goals omega
theorem go_if_lt (X : Cx l D cc own nm nL ret d mc ms sh0 sz0 Po g) {x : Int} {off : Int} {tgt : Nat} (hd : decode cc pc = .ok (.ifCond .lt off, 3)) (ht : (pc : Int) + off = (tgt : Int)) (hx1 : -2147483648 ≤ x ∧ x < 2147483648) (kt : x < 0 → Go g k n sh M sz tgt lv r) (kf : 0 ≤ x → Go g k n sh M sz (pc + 3) lv r) : Go g k n sh M sz pc lv (vi x :: r) := by
  obtain ⟨p, l', e, R, s, m, args, below, meth, c, D', A, Q, nL'⟩ := g
  obtain ⟨rfl, rfl, rfl, rfl, rfl, hQ, hx, hb, hown, hts, hK, hN, hml, hr, hlk, hnm, hsz0⟩ := X
  intro H locs ls hR hA hz hS hl
  refine lv_if_lt hx hb hd ht (fun h => kt ?_ H locs ls hR hA hz hS hl) (fun h => kf ?_ H locs ls hR hA hz hS hl)
  all_goals rw [n_0, n_lt hx1 (y := 0) (by omega)] at h
  all_goals omega
theorem go_if_ge (X : Cx l D cc own nm nL ret d mc ms sh0 sz0 Po g) {x : Int} {off : Int} {tgt : Nat} (hd : decode cc pc = .ok (.ifCond .ge off, 3)) (ht : (pc : Int) + off = (tgt : Int)) (hx1 : -2147483648 ≤ x ∧ x < 2147483648) (kt : 0 ≤ x → Go g k n sh M sz tgt lv r) (kf : x < 0 → Go g k n sh M sz (pc + 3) lv r) : Go g k n sh M sz pc lv (vi x :: r) := by
  obtain ⟨p, l', e, R, s, m, args, below, meth, c, D', A, Q, nL'⟩ := g
  obtain ⟨rfl, rfl, rfl, rfl, rfl, hQ, hx, hb, hown, hts, hK, hN, hml, hr, hlk, hnm, hsz0⟩ := X
  intro H locs ls hR hA hz hS hl
  refine lv_if_ge hx hb hd ht (fun h => kt ?_ H locs ls hR hA hz hS hl) (fun h => kf ?_ H locs ls hR hA hz hS hl)
  all_goals rw [n_0, n_le (x := 0) (by omega) hx1] at h
  all_goals omega
theorem go_if_gt (X : Cx l D cc own nm nL ret d mc ms sh0 sz0 Po g) {x : Int} {off : Int} {tgt : Nat} (hd : decode cc pc = .ok (.ifCond .gt off, 3)) (ht : (pc : Int) + off = (tgt : Int)) (hx1 : -2147483648 ≤ x ∧ x < 2147483648) (kt : 0 < x → Go g k n sh M sz tgt lv r) (kf : x ≤ 0 → Go g k n sh M sz (pc + 3) lv r) : Go g k n sh M sz pc lv (vi x :: r) := by
  obtain ⟨p, l', e, R, s, m, args, below, meth, c, D', A, Q, nL'⟩ := g
  obtain ⟨rfl, rfl, rfl, rfl, rfl, hQ, hx, hb, hown, hts, hK, hN, hml, hr, hlk, hnm, hsz0⟩ := X
  intro H locs ls hR hA hz hS hl
  refine lv_if_gt hx hb hd ht (fun h => kt ?_ H locs ls hR hA hz hS hl) (fun h => kf ?_ H locs ls hR hA hz hS hl)
  all_goals rw [n_0, n_lt (x := 0) (by omega) hx1] at h
  all_goals omega
theorem go_if_le (X : Cx l D cc own nm nL ret d mc ms sh0 sz0 Po g) {x : Int} {off : Int} {tgt : Nat} (hd : decode cc pc = .ok (.ifCond .le off, 3)) (ht : (pc : Int) + off = (tgt : Int)) (hx1 : -2147483648 ≤ x ∧ x < 2147483648) (kt : x ≤ 0 → Go g k n sh M sz tgt lv r) (kf : 0 < x → Go g k n sh M sz (pc + 3) lv r) : Go g k n sh M sz pc lv (vi x :: r) := by
  obtain ⟨p, l', e, R, s, m, args, below, meth, c, D', A, Q, nL'⟩ := g
  obtain ⟨rfl, rfl, rfl, rfl, rfl, hQ, hx, hb, hown, hts, hK, hN, hml, hr, hlk, hnm, hsz0⟩ := X
  intro H locs ls hR hA hz hS hl
  refine lv_if_le hx hb hd ht (fun h => kt ?_ H locs ls hR hA hz hS hl) (fun h => kf ?_ H locs ls hR hA hz hS hl)
  all_goals rw [n_0, n_le hx1 (y := 0) (by omega)] at h
  all_goals omega
theorem go_icmp_eq (X : Cx l D cc own nm nL ret d mc ms sh0 sz0 Po g) {x y : Int} {off : Int} {tgt : Nat} (hd : decode cc pc = .ok (.if_icmp .eq off, 3)) (ht : (pc : Int) + off = (tgt : Int)) (hx1 : -2147483648 ≤ x ∧ x < 2147483648) (hy1 : -2147483648 ≤ y ∧ y < 2147483648) (kt : x = y → Go g k n sh M sz tgt lv r) (kf : x ≠ y → Go g k n sh M sz (pc + 3) lv r) : Go g k n sh M sz pc lv (vi y :: vi x :: r) := by
  obtain ⟨p, l', e, R, s, m, args, below, meth, c, D', A, Q, nL'⟩ := g
  obtain ⟨rfl, rfl, rfl, rfl, rfl, hQ, hx, hb, hown, hts, hK, hN, hml, hr, hlk, hnm, hsz0⟩ := X
  intro H locs ls hR hA hz hS hl
  refine lv_icmp_eq hx hb hd ht (fun h => kt ?_ H locs ls hR hA hz hS hl) (fun h => kf ?_ H locs ls hR hA hz hS hl)
  all_goals rw [n_eq hx1 hy1] at h
  all_goals omega
theorem go_icmp_ne (X : Cx l D cc own nm nL ret d mc ms sh0 sz0 Po g) {x y : Int} {off : Int} {tgt : Nat} (hd : decode cc pc = .ok (.if_icmp .ne off, 3)) (ht : (pc : Int) + off = (tgt : Int)) (hx1 : -2147483648 ≤ x ∧ x < 2147483648) (hy1 : -2147483648 ≤ y ∧ y < 2147483648) (kt : x ≠ y → Go g k n sh M sz tgt lv r) (kf : x = y → Go g k n sh M sz (pc + 3) lv r) : Go g k n sh M sz pc lv (vi y :: vi x :: r) := by
  obtain ⟨p, l', e, R, s, m, args, below, meth, c, D', A, Q, nL'⟩ := g
  obtain ⟨rfl, rfl, rfl, rfl, rfl, hQ, hx, hb, hown, hts, hK, hN, hml, hr, hlk, hnm, hsz0⟩ := X
  intro H locs ls hR hA hz hS hl
  refine lv_icmp_ne hx hb hd ht (fun h => kt ?_ H locs ls hR hA hz hS hl) (fun h => kf ?_ H locs ls hR hA hz hS hl)
  all_goals rw [n_eq hx1 hy1] at h
  all_goals omega
theorem go_icmp_lt (X : Cx l D cc own nm nL ret d mc ms sh0 sz0 Po g) {x y : Int} {off : Int} {tgt : Nat} (hd : decode cc pc = .ok (.if_icmp .lt off, 3)) (ht : (pc : Int) + off = (tgt : Int)) (hx1 : -2147483648 ≤ x ∧ x < 2147483648) (hy1 : -2147483648 ≤ y ∧ y < 2147483648) (kt : x < y → Go g k n sh M sz tgt lv r) (kf : y ≤ x → Go g k n sh M sz (pc + 3) lv r) : Go g k n sh M sz pc lv (vi y :: vi x :: r) := by
  obtain ⟨p, l', e, R, s, m, args, below, meth, c, D', A, Q, nL'⟩ := g
  obtain ⟨rfl, rfl, rfl, rfl, rfl, hQ, hx, hb, hown, hts, hK, hN, hml, hr, hlk, hnm, hsz0⟩ := X
  intro H locs ls hR hA hz hS hl
  refine lv_icmp_lt hx hb hd ht (fun h => kt ?_ H locs ls hR hA hz hS hl) (fun h => kf ?_ H locs ls hR hA hz hS hl)
  all_goals rw [n_lt hx1 hy1] at h
  all_goals omega
theorem go_icmp_ge (X : Cx l D cc own nm nL ret d mc ms sh0 sz0 Po g) {x y : Int} {off : Int} {tgt : Nat} (hd : decode cc pc = .ok (.if_icmp .ge off, 3)) (ht : (pc : Int) + off = (tgt : Int)) (hx1 : -2147483648 ≤ x ∧ x < 2147483648) (hy1 : -2147483648 ≤ y ∧ y < 2147483648) (kt : y ≤ x → Go g k n sh M sz tgt lv r) (kf : x < y → Go g k n sh M sz (pc + 3) lv r) : Go g k n sh M sz pc lv (vi y :: vi x :: r) := by
  obtain ⟨p, l', e, R, s, m, args, below, meth, c, D', A, Q, nL'⟩ := g
  obtain ⟨rfl, rfl, rfl, rfl, rfl, hQ, hx, hb, hown, hts, hK, hN, hml, hr, hlk, hnm, hsz0⟩ := X
  intro H locs ls hR hA hz hS hl
  refine lv_icmp_ge hx hb hd ht (fun h => kt ?_ H locs ls hR hA hz hS hl) (fun h => kf ?_ H locs ls hR hA hz hS hl)
  all_goals rw [n_le hy1 hx1] at h
  all_goals omega
theorem go_icmp_gt (X : Cx l D cc own nm nL ret d mc ms sh0 sz0 Po g) {x y : Int} {off : Int} {tgt : Nat} (hd : decode cc pc = .ok (.if_icmp .gt off, 3)) (ht : (pc : Int) + off = (tgt : Int)) (hx1 : -2147483648 ≤ x ∧ x < 2147483648) (hy1 : -2147483648 ≤ y ∧ y < 2147483648) (kt : y < x → Go g k n sh M sz tgt lv r) (kf : x ≤ y → Go g k n sh M sz (pc + 3) lv r) : Go g k n sh M sz pc lv (vi y :: vi x :: r) := by
  obtain ⟨p, l', e, R, s, m, args, below, meth, c, D', A, Q, nL'⟩ := g
  obtain ⟨rfl, rfl, rfl, rfl, rfl, hQ, hx, hb, hown, hts, hK, hN, hml, hr, hlk, hnm, hsz0⟩ := X
  intro H locs ls hR hA hz hS hl
  refine lv_icmp_gt hx hb hd ht (fun h => kt ?_ H locs ls hR hA hz hS hl) (fun h => kf ?_ H locs ls hR hA hz hS hl)
  all_goals rw [n_lt hy1 hx1] at h
  all_goals omega
theorem go_icmp_le (X : Cx l D cc own nm nL ret d mc ms sh0 sz0 Po g) {x y : Int} {off : Int} {tgt : Nat} (hd : decode cc pc = .ok (.if_icmp .le off, 3)) (ht : (pc : Int) + off = (tgt : Int)) (hx1 : -2147483648 ≤ x ∧ x < 2147483648) (hy1 : -2147483648 ≤ y ∧ y < 2147483648) (kt : x ≤ y → Go g k n sh M sz tgt lv r) (kf : y < x → Go g k n sh M sz (pc + 3) lv r) : Go g k n sh M sz pc lv (vi y :: vi x :: r) := by
  obtain ⟨p, l', e, R, s, m, args, below, meth, c, D', A, Q, nL'⟩ := g
  obtain ⟨rfl, rfl, rfl, rfl, rfl, hQ, hx, hb, hown, hts, hK, hN, hml, hr, hlk, hnm, hsz0⟩ := X
  intro H locs ls hR hA hz hS hl
  refine lv_icmp_le hx hb hd ht (fun h => kt ?_ H locs ls hR hA hz hS hl) (fun h => kf ?_ H locs ls hR hA hz hS hl)
  all_goals rw [n_le hx1 hy1] at h
  all_goals omega
theorem go_goto (X : Cx l D cc own nm nL ret d mc ms sh0 sz0 Po g) {off : Int} {tgt : Nat} (hd : decode cc pc = .ok (.goto off, 3)) (ht : (pc : Int) + off = (tgt : Int)) (kk : Go g k n sh M sz tgt lv st) : Go g k n sh M sz pc lv st := by
  obtain ⟨p, l', e, R, s, m, args, below, meth, c, D', A, Q, nL'⟩ := g
  obtain ⟨rfl, rfl, rfl, rfl, rfl, hQ, hx, hb, hown, hts, hK, hN, hml, hr, hlk, hnm, hsz0⟩ := X
  intro H locs ls hR hA hz hS hl
  exact lv_goto hx hb hd ht (kk H locs ls hR hA hz hS hl)
theorem go_ifnull (X : Cx l D cc own nm nL ret d mc ms sh0 sz0 Po g) {x : Int} {off : Int} (hd : decode cc pc = .ok (.ifnull off, 3)) (kk : Go g k n sh M sz (pc + 3) lv r) : Go g k n sh M sz pc lv (vr x :: r) := by
  obtain ⟨p, l', e, R, s, m, args, below, meth, c, D', A, Q, nL'⟩ := g
  obtain ⟨rfl, rfl, rfl, rfl, rfl, hQ, hx, hb, hown, hts, hK, hN, hml, hr, hlk, hnm, hsz0⟩ := X
  intro H locs ls hR hA hz hS hl
  exact lv_ifnull hx hb hd (kk H locs ls hR hA hz hS hl)
theorem go_ifnullN (X : Cx l D cc own nm nL ret d mc ms sh0 sz0 Po g) {off : Int} {tgt : Nat} (hd : decode cc pc = .ok (.ifnull off, 3)) (ht : (pc : Int) + off = (tgt : Int)) (kk : Go g k n sh M sz tgt lv r) : Go g k n sh M sz pc lv (.null :: r) := by
  obtain ⟨p, l', e, R, s, m, args, below, meth, c, D', A, Q, nL'⟩ := g
  obtain ⟨rfl, rfl, rfl, rfl, rfl, hQ, hx, hb, hown, hts, hK, hN, hml, hr, hlk, hnm, hsz0⟩ := X
  intro H locs ls hR hA hz hS hl
  exact lv_ifnullN hx hb hd ht (kk H locs ls hR hA hz hS hl)
theorem go_ifnonnull (X : Cx l D cc own nm nL ret d mc ms sh0 sz0 Po g) {x : Int} {off : Int} {tgt : Nat} (hd : decode cc pc = .ok (.ifnonnull off, 3)) (ht : (pc : Int) + off = (tgt : Int)) (kk : Go g k n sh M sz tgt lv r) : Go g k n sh M sz pc lv (vr x :: r) := by
  obtain ⟨p, l', e, R, s, m, args, below, meth, c, D', A, Q, nL'⟩ := g
  obtain ⟨rfl, rfl, rfl, rfl, rfl, hQ, hx, hb, hown, hts, hK, hN, hml, hr, hlk, hnm, hsz0⟩ := X
  intro H locs ls hR hA hz hS hl
  exact lv_ifnonnull hx hb hd ht (kk H locs ls hR hA hz hS hl)
theorem go_ifnonnullN (X : Cx l D cc own nm nL ret d mc ms sh0 sz0 Po g) {off : Int} (hd : decode cc pc = .ok (.ifnonnull off, 3)) (kk : Go g k n sh M sz (pc + 3) lv r) : Go g k n sh M sz pc lv (.null :: r) := by
  obtain ⟨p, l', e, R, s, m, args, below, meth, c, D', A, Q, nL'⟩ := g
  obtain ⟨rfl, rfl, rfl, rfl, rfl, hQ, hx, hb, hown, hts, hK, hN, hml, hr, hlk, hnm, hsz0⟩ := X
  intro H locs ls hR hA hz hS hl
  exact lv_ifnonnullN hx hb hd (kk H locs ls hR hA hz hS hl)
theorem go_tabIn (X : Cx l D cc own nm nL ret d mc ms sh0 sz0 Po g) {dflt lo hi : Int} {offs : Array Int} {len : Nat} {x : Int} {off : Int} {tgt : Nat} (hd : decode cc pc = .ok (.tableswitch dflt lo hi offs, len)) (hx1 : -2147483648 ≤ x ∧ x < 2147483648) (h1 : lo ≤ x) (h2 : x ≤ hi) (ho : offs[(x - lo).toNat]? = some off) (ht : (pc : Int) + off = (tgt : Int)) (kk : Go g k n sh M sz tgt lv r) : Go g k n sh M sz pc lv (vi x :: r) := by
  obtain ⟨p, l', e, R, s, m, args, below, meth, c, D', A, Q, nL'⟩ := g
  obtain ⟨rfl, rfl, rfl, rfl, rfl, hQ, hx, hb, hown, hts, hK, hN, hml, hr, hlk, hnm, hsz0⟩ := X
  intro H locs ls hR hA hz hS hl
  exact lv_tableIn hx hb hd (by rw [n_to hx1]; omega) (by rw [n_to hx1]; omega) (by rw [n_to hx1]; exact ho) ht (kk H locs ls hR hA hz hS hl)
theorem go_tabOut (X : Cx l D cc own nm nL ret d mc ms sh0 sz0 Po g) {dflt lo hi : Int} {offs : Array Int} {len : Nat} {x : Int} {tgt : Nat} (hd : decode cc pc = .ok (.tableswitch dflt lo hi offs, len)) (hx1 : -2147483648 ≤ x ∧ x < 2147483648) (h : x < lo ∨ hi < x) (ht : (pc : Int) + dflt = (tgt : Int)) (kk : Go g k n sh M sz tgt lv r) : Go g k n sh M sz pc lv (vi x :: r) := by
  obtain ⟨p, l', e, R, s, m, args, below, meth, c, D', A, Q, nL'⟩ := g
  obtain ⟨rfl, rfl, rfl, rfl, rfl, hQ, hx, hb, hown, hts, hK, hN, hml, hr, hlk, hnm, hsz0⟩ := X
  intro H locs ls hR hA hz hS hl
  exact lv_tableOut hx hb hd (by rw [n_to hx1]; omega) ht (kk H locs ls hR hA hz hS hl)
theorem go_look (X : Cx l D cc own nm nL ret d mc ms sh0 sz0 Po g) {dflt : Int} {ps : Array (Int × Int)} {len : Nat} {x : Int} {off : Int} {tgt : Nat} (hd : decode cc pc = .ok (.lookupswitch dflt ps, len)) (hx1 : -2147483648 ≤ x ∧ x < 2147483648) (hp : (ps.toList.zip (ps.toList.drop 1)).all (fun (a, next) => a.1 < next.1) = true) (ho : Op.lookupswitch.offset ps.toList dflt x = off) (ht : (pc : Int) + off = (tgt : Int)) (kk : Go g k n sh M sz tgt lv r) : Go g k n sh M sz pc lv (vi x :: r) := by
  obtain ⟨p, l', e, R, s, m, args, below, meth, c, D', A, Q, nL'⟩ := g
  obtain ⟨rfl, rfl, rfl, rfl, rfl, hQ, hx, hb, hown, hts, hK, hN, hml, hr, hlk, hnm, hsz0⟩ := X
  intro H locs ls hR hA hz hS hl
  exact lv_lookup hx hb hd hp (by rw [n_to hx1]; exact ho) ht (kk H locs ls hR hA hz hS hl)
theorem go_top (X : Cx l D cc own nm nL ret d mc ms sh0 sz0 Po g) {v v' : Value} (h : v = v') (kk : Go g k n sh M sz pc lv (v' :: r)) : Go g k n sh M sz pc lv (v :: r) := by
  obtain ⟨p, l', e, R, s, m, args, below, meth, c, D', A, Q, nL'⟩ := g
  obtain ⟨rfl, rfl, rfl, rfl, rfl, hQ, hx, hb, hown, hts, hK, hN, hml, hr, hlk, hnm, hsz0⟩ := X
  intro H locs ls hR hA hz hS hl
  subst h
  exact kk H locs ls hR hA hz hS hl
theorem go_iret (X : Cx l D cc own nm nL ret d mc ms sh0 sz0 Po g) {x : Int} {ty : FieldType} (hd : decode cc pc = .ok (.ireturn, 1)) (hty : ret = some ty) (hnar : narrow ty (vi x) = vi x) (hk : k ≤ mc) (hn : n ≤ ms) (hp : Po (some (vi x)) sh M sz) : Go g k n sh M sz pc lv [vi x] := by
  obtain ⟨p, l', e, R, s, m, args, below, meth, c, D', A, Q, nL'⟩ := g
  obtain ⟨rfl, rfl, rfl, rfl, rfl, hQ, hx, hb, hown, hts, hK, hN, hml, hr, hlk, hnm, hsz0⟩ := X
  intro H locs ls hR hA hz hS hl
  refine W.widen hk hn (W.mono hQ ?_)
  exact W.zret hx hb (hr.trans hty) hnar (fun t ht hW => ⟨some (vi x), sh, M, rfl, by rw [ht, hz]; exact hp, by rw [ht]; exact hR.moved hW.alike, hA, hS.F ht⟩) hS.2.2 hd hlk
theorem go_lret (X : Cx l D cc own nm nL ret d mc ms sh0 sz0 Po g) {x : Int} (hd : decode cc pc = .ok (.lreturn, 1)) (hty : ret = some .long) (hk : k ≤ mc) (hn : n ≤ ms) (hp : Po (some (vl x)) sh M sz) : Go g k n sh M sz pc lv [vl x] := by
  obtain ⟨p, l', e, R, s, m, args, below, meth, c, D', A, Q, nL'⟩ := g
  obtain ⟨rfl, rfl, rfl, rfl, rfl, hQ, hx, hb, hown, hts, hK, hN, hml, hr, hlk, hnm, hsz0⟩ := X
  intro H locs ls hR hA hz hS hl
  refine W.widen hk hn (W.mono hQ ?_)
  exact W.lret hx hb (hr.trans hty) (fun t ht hW => ⟨some (vl x), sh, M, rfl, by rw [ht, hz]; exact hp, by rw [ht]; exact hR.moved hW.alike, hA, hS.F ht⟩) hS.2.2 hd hlk
theorem go_vret (X : Cx l D cc own nm nL ret d mc ms sh0 sz0 Po g) (hd : decode cc pc = .ok (.return_, 1)) (hty : ret = none) (hk : k ≤ mc) (hn : n ≤ ms) (hp : Po none sh M sz) : Go g k n sh M sz pc lv [] := by
  obtain ⟨p, l', e, R, s, m, args, below, meth, c, D', A, Q, nL'⟩ := g
  obtain ⟨rfl, rfl, rfl, rfl, rfl, hQ, hx, hb, hown, hts, hK, hN, hml, hr, hlk, hnm, hsz0⟩ := X
  intro H locs ls hR hA hz hS hl
  refine W.widen hk hn (W.mono hQ ?_)
  exact W.vret hx hb (hr.trans hty) (fun t ht hW => ⟨none, sh, M, rfl, by rw [ht, hz]; exact hp, by rw [ht]; exact hR.moved hW.alike, hA, hS.F ht⟩) hS.2.2 hd hlk
theorem go_aret (X : Cx l D cc own nm nL ret d mc ms sh0 sz0 Po g) {v : Value} {rt : FieldType} (hd : decode cc pc = .ok (.areturn, 1)) (hty : ret = some rt) (hrt : (∃ n, rt = .object n) ∨ ∃ t, rt = .array t) (hv : v = .null ∨ ∃ a, v = .ref a) (hk : k ≤ mc) (hn : n ≤ ms) (hp : Po (some v) sh M sz) : Go g k n sh M sz pc lv [v] := by
  obtain ⟨p, l', e, R, s, m, args, below, meth, c, D', A, Q, nL'⟩ := g
  obtain ⟨rfl, rfl, rfl, rfl, rfl, hQ, hx, hb, hown, hts, hK, hN, hml, hr, hlk, hnm, hsz0⟩ := X
  intro H locs ls hR hA hz hS hl
  refine W.widen hk hn (W.mono hQ ?_)
  exact W.aret hx hb (hr.trans hty) hrt hv (fun t ht hW => ⟨some v, sh, M, rfl, by rw [ht, hz]; exact hp, by rw [ht]; exact hR.moved hW.alike, hA, hS.F ht⟩) hS.2.2 hd hlk
theorem go_widen (X : Cx l D cc own nm nL ret d mc ms sh0 sz0 Po g) {k2 n2 : Nat} (hk : k ≤ k2) (hn : n ≤ n2) (kk : Go g k2 n2 sh M sz pc lv st) : Go g k n sh M sz pc lv st := by
  obtain ⟨p, l', e, R, s, m, args, below, meth, c, D', A, Q, nL'⟩ := g
  obtain ⟨rfl, rfl, rfl, rfl, rfl, hQ, hx, hb, hown, hts, hK, hN, hml, hr, hlk, hnm, hsz0⟩ := X
  intro H locs ls hR hA hz hS hl
  exact W.widen hk hn (kk H locs ls hR hA hz hS hl)
end GoRows
