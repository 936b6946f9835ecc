/-! What a thrower rests on beyond the words that keep: e_T (words of the tables), e_Z (the two statics of Throwable: words of the heap). -/
def s_thr : Cond → Bool
  | .declares _ => true
  | .castable .. => true
  | _ => false
def tAll : List Cond := tables_1.filter s_thr
theorem tAll_ok : tAll.all s_thr = true := List.all_eq_true.mpr fun w h => (List.mem_filter.mp h).2
abbrev x_tN : String := "java/lang/Throwable"
abbrev x_ste : String := "[Ljava/lang/StackTraceElement;"
abbrev x_lst : String := "Ljava/util/List;"
def zAll : List Cond := [.laysStatic x_tN "UNASSIGNED_STACK" x_ste, .laysStatic x_tN "SUPPRESSED_SENTINEL" x_lst, .isRef (.static x_tN "UNASSIGNED_STACK" x_ste), .isRef (.static x_tN "SUPPRESSED_SENTINEL" x_lst)]
def e_T (U : State) : Prop := ∀ w ∈ tAll, va_Nw w U
theorem e_T.warm {s U : State} (hW : s.WarmedH U.vm) (h : e_T s) : e_T U := fun w hw => by
  have h1 := h w hw
  have h2 : s_thr w = true := List.all_eq_true.mp tAll_ok w hw
  cases w <;> first | exact va_Nw.warmD hW h1 | exact va_Nw.warmC hW h1 | (simp [s_thr] at h2)
theorem e_T.same {u U : State} (hv : u.vm = U.vm) (h : e_T u) : e_T U := fun w hw => by
  have h1 := h w hw
  have h2 : s_thr w = true := List.all_eq_true.mp tAll_ok w hw
  cases w <;> first | exact va_Nw.same rfl hv h1 | (simp [s_thr] at h2)
theorem e_T.use {U : State} (h : e_T U) {w : Cond} (hw : w ∈ tAll) (av : Array Value) : w.before av U = true := by
  have h1 := h w hw
  have h2 : s_thr w = true := List.all_eq_true.mp tAll_ok w hw
  cases w <;> first | exact va_Nw.use rfl h1 | (simp [s_thr] at h2)
def e_Z (U : State) : Prop := ∃ (a : Nat) (cell : Cell), U.heap[a]? = some cell ∧ cell.vm.isStatics = true ∧ ∀ (V : State) (av : Array Value), U.WarmedH V.vm → V.heap[a]? = some cell → ∀ w ∈ zAll, w.before av V = true
theorem e_Z.to {U V : State} (h : e_Z U) (hW : U.WarmedH V.vm) (hk : ∀ (a : Nat) (cell : Cell), U.heap[a]? = some cell → cell.vm.isStatics = true → V.heap[a]? = some cell) : e_Z V := by
  obtain ⟨a, cell, h1, h2, h3⟩ := h
  exact ⟨a, cell, hk a cell h1 h2, h2, fun V' av hW' hc => h3 V' av (State.WarmedH.trans hW hW') hc⟩
theorem e_Z.use {U : State} (h : e_Z U) {w : Cond} (hw : w ∈ zAll) (av : Array Value) : w.before av U = true := by
  obtain ⟨a, cell, h1, h2, h3⟩ := h
  exact h3 U av (State.WarmedH.refl U) h1 w hw
/-- no cell of the shape is a class's cell of statics -/
theorem s_R.nst {D : va_G} {cl : List vw_C} {s : State} {sh : s_S} {M : s_M} {H : Heap} (h : s_R D cl s sh M H) {q : Nat} {cell : Cell} (hs : (sh (q : Int)).isSome = true) (hc : H[q]? = some cell) : cell.vm.isStatics = false := by
  obtain ⟨k, hk⟩ := Option.isSome_iff_exists.mp hs
  have h1 := (h _ k hk).2
  rw [Int.toNat_natCast] at h1
  cases k with
  | inr y =>
    obtain ⟨cA, -, h2⟩ := h1
    cases hc.symm.trans h2
    unfold s_arr vp_cell
    split <;> rfl
  | inl o =>
    obtain ⟨r, -, cell2, h2, -, h3, -⟩ := h1
    cases hc.symm.trans h2
    rw [h3]
    rfl
theorem s_R.nfr {D : va_G} {cl : List vw_C} {s U : State} {sh : s_S} {M : s_M} {H : Heap} {sz : Int} (h : s_R D cl s sh M H) (hz : (H.size : Int) = sz) {q : Nat} {cell : Cell} (hc : H[q]? = some cell) (hs : cell.vm.isStatics = true) : ¬ s_fr sh sz q := by
  intro hf
  rcases hf with hf | hf
  · have := h.nst hf hc
    rw [hs] at this
    cases this
  · have := (Array.getElem?_eq_some_iff.mp hc).1
    omega
/-! The contract of a method that may throw: Xo holds of the thrown class, the shape, the contents, the heap's size. -/
abbrev s_Xo : Type := String → s_S → s_M → Int → Prop
def x_Pre (D : va_G) (av : List Value) (sh : s_S) (M : s_M) (sz : Int) : Array Value → State → Prop := va_Pc av (fun U => ((U.heap.size : Int) = sz ∧ s_R D cAll U sh M U.heap ∧ va_K D cAll [] U ∧ s_N U) ∧ e_T U ∧ e_Z U)
def x_Q (D : va_G) (sh : s_S) (sz : Int) (Xo : s_Xo) (mc ms : Nat) (st : State) (o : Outcome) (t : State) : Prop := ∃ (a : Nat) (E : String) (ce : Cell) (sh' : s_S) (M' : s_M), o = .threw a ∧ Xo E sh' M' (t.heap.size : Int) ∧ s_R D cAll t sh' M' t.heap ∧ (∀ b : Int, (sh' b).isSome = true → s_fr sh sz b.toNat) ∧ va_F (s_fr sh sz) st t ∧
  t.heap[a]? = some ce ∧ t.vm.findClass E = some ce.cls ∧ ce.vm = .none ∧ st.WarmedH t.vm ∧ ∃ L, st.sameButNew ({ t with vm := st.vm } : State) L mc ms ∧ ∀ q ∈ L, s_fr sh sz q.base
def x_E (D : va_G) (sh : s_S) (sz : Int) (Po : s_Po) (Xo : s_Xo) (mc ms : Nat) : Array Value → State → Outcome → State → Prop := fun a st o t => (s_Q D sh sz Po a st o t ∧ ∃ L, FrameEnd st o t L mc ms ∧ ∀ q ∈ L, s_fr sh sz q.base) ∨ x_Q D sh sz Xo mc ms st o t
def SpX (l : Launch) (D : va_G) (y : MethodName) (cc : ByteArray) (nL : Nat) (ret : Option FieldType) (d mc ms : Nat) (av : List Value) (sh : s_S) (M : s_M) (sz : Int) (Po : s_Po) (Xo : s_Xo) : Prop :=
  MetFree l y (headSpec (wOf y cc nL ret) (rOf d mc ms)) (x_Pre D av sh M sz) (fun _ _ _ _ _ => True) (x_E D sh sz Po Xo mc ms)
/-- what the walk of such a method rests on beyond Cx -/
def x_C (sh0 : s_S) (sz0 : Int) (mc ms : Nat) (Xo : s_Xo) (g : g_X) : Prop := match g with
  | (_, _, e, _, s, _, _, below, _, c, D, _, Q, _) => e.platform.stackTraces = false ∧ c.exceptionTable.toList = [] ∧ e_T s ∧ e_Z s ∧ (∀ (q : Nat) (cell : Cell), s.heap[q]? = some cell → cell.vm.isStatics = true → ¬ s_fr sh0 sz0 q) ∧
    ∀ t : State, (∃ a, t.status = .running ∧ Ended t below (.threw a) ∧ x_Q D sh0 sz0 Xo mc ms s (.threw a) t) → Q t
theorem SpX.ofGo {l : Launch} (hl : l.stackTraces = false) {D : va_G} {y : MethodName} {cc : ByteArray} {nL : Nat} {ret : Option FieldType} {d mc ms : Nat} {av : List Value} {sh : s_S} {M : s_M} {sz : Int} {Po : s_Po} {Xo : s_Xo} {own nm : String} (hy : plainName y.cls = true) (hown : y.cls = own) (hnm : y.name = nm) (hlen : (lg_sl av).length ≤ nL) {lv : List (Nat × Value)} (hlv : lv_args 0 av = lv)
    (body : ∀ g : g_X, Cx l D cc own nm nL ret d mc ms sh sz Po g → x_C sh sz mc ms Xo g → Go g 0 0 sh M sz 0 lv []) : SpX l D y cc nL ret d mc ms av sh M sz Po Xo := by
  subst hlv
  refine MetFree.of_bodyS (code := cc) (maxLocals := nL) (ret := ret) hy ?_ ?_
  · intro args s m h hn
    obtain ⟨meth, c, h1, h2, h3, h4, h5, h6, -, -⟩ := Cond.code_spec hn (atoms_spec (ws := wOf y cc nL ret) h _ List.mem_cons_self)
    exact ⟨meth, c, h1, h2, h3, h4, h5, h6⟩
  · intro p e s m args below meth c s₁ B hml hP _
    obtain ⟨rfl, ⟨hsz, hR, hK, hN⟩, hT, hZ⟩ := hP
    have hts := atoms_spec (ws := wOf y cc nL ret) B.pre
    obtain ⟨meth2, c2, k1, k2, -, -, -, -, k7, -⟩ := Cond.code_spec B.named (hts _ List.mem_cons_self)
    cases B.method.symm.trans k1
    have hh0 : s₁.heap = s.heap := by rw [B.state]; rfl
    have X0 := Stand.of_body B
    cases X0.code.symm.trans k2
    have hno : c.exceptionTable.toList = [] := by
      have := Array.isEmpty_iff.mp k7
      rw [this]
    have hgo := body (p, l, e, rOf d mc ms, s, m, av.toArray, below, meth, c, D, s_fr sh sz, fun t => ∃ o, t.status = .running ∧ Ended t below o ∧ x_E D sh sz Po Xo mc ms av.toArray s o t, nL)
      ⟨rfl, rfl, rfl, rfl, rfl, fun t ht => by
        obtain ⟨o, b1, b2, b3⟩ := ht
        exact ⟨o, b1, b2, Or.inl b3⟩, B.exec, B.bytes, by rw [← hown]; exact findClass_of_methodNamed B.named, fun w hw => hts w (List.mem_cons_of_mem _ hw), hK, hN, hml, B.returns, B.notSynchronized, by rw [← hnm]; exact (name_of_methodNamed B.named B.method).1, hsz⟩
      ⟨by rw [B.admits.platform]; exact hl, hno, hT, hZ, fun q cell h1 h2 => s_R.nfr (U := s) hR hsz h1 h2, fun t ht => by
        obtain ⟨a, b1, b2, b3⟩ := ht
        exact ⟨.threw a, b1, b2, Or.inr b3⟩⟩
    rw [lg_entry_eq]
    obtain ⟨t, a1, o, b1, b2, b3⟩ := hgo s.heap [] _ hR (s_dom hR) hsz va_S.rf (lv_entry av hlen) s₁ hh0 X0
    exact ⟨t, o, a1, b1, b2, b3⟩
/-- a thrown class: the places of its name and of its constructor in the pool of CiteForge -/
def x_K (cls : String) (ix ic : Nat) : Prop := Bundle.fit cls = true ∧ (∀ w ∈ Bundle.ownAtoms0 "CiteForge" ic cls x_names, w ∈ wAll ∨ w ∈ tAll ∨ w ∈ zAll) ∧ Cond.classLink "CiteForge" ix cls ∈ wAll ∧ Cond.instantiable cls 6 ∈ wAll ∧ Cond.initialized cls ∈ wAll
theorem x_sub {A : Nat → Prop} {s : State} {H : Heap} {locs : List Loc} {U : State} (hS : va_S A s.heap H locs) (hU : ∀ q : Nat, q < H.size → U.heap[q]? = H[q]?) (hz : H.size ≤ U.heap.size) : va_F A s U := ⟨Nat.le_trans hS.1 hz, fun q h1 h2 => by rw [hU q (by have := hS.1; omega)]; exact hS.2.1 q h1 h2⟩
section GoThrow
variable {l : Launch} {D : va_G} {cc : ByteArray} {nm : String} {nL : Nat} {ret : Option FieldType} {d mc ms : Nat} {sh0 : s_S} {sz0 : Int} {Po : s_Po} {Xo : s_Xo} {g : g_X} {k n : Nat} {sh : s_S} {M : s_M} {sz : Int} {pc : Nat} {lv : List (Nat × Value)}
theorem go_throw (X : Cx l D cc "CiteForge" nm nL ret d mc ms sh0 sz0 Po g) (XX : x_C sh0 sz0 mc ms Xo g) {cls : String} {ix ic : Nat} (hE : x_K cls ix ic) (hd0 : decode cc pc = .ok (.new ix, 3)) (hd3 : decode cc (pc + 3) = .ok (.dup, 1)) (hd4 : decode cc (pc + 4) = .ok (.invokespecial ic, 3)) (hd7 : decode cc (pc + 7) = .ok (.athrow, 1))
    (hk : k + 1 ≤ mc) (hn : n + 6 ≤ ms) (hdd : 6 ≤ d) (hp : Xo cls sh M (sz + 1)) : Go g k n sh M sz pc lv [] := by
  obtain ⟨p, l', e, R, s, m, args, below, meth, c, D', A, Q, nL'⟩ := g
  obtain ⟨rfl, rfl, rfl, rfl, rfl, hQ, hx, hb, hown, hts, hK, hN, hml, hr, hlk, hnm, hsz0⟩ := X
  obtain ⟨htr, hno, hT, hZ, hst, hQX⟩ := XX
  obtain ⟨e1, e2, e3, e4, e5⟩ := hE
  intro H locs ls hR hA hz hS hl
  intro T hTH X
  have X1 := x_rebase X (show k ≤ mc by omega) (show n ≤ ms by omega)
  have key : ∀ w ∈ wAll, w.before args (x_s s T) = true := fun w hw => by
    have hg : goodWord w = true := List.all_eq_true.mp wAll_ok w hw
    exact word_at (U := x_s s T) (State.WarmedH.refl s) (good_of_word hg) (hts w hw)
  have hZ1 : e_Z (x_s s T) := hZ.to (State.WarmedH.refl s) (fun q cell h1 h2 => by
    show T.heap[q]? = _
    rw [hTH, hS.2.1 q (Array.getElem?_eq_some_iff.mp h1).1 (hst q cell h1 h2)]
    exact h1)
  have hT1 : e_T (x_s s T) := e_T.same (u := s) rfl hT
  have hw : ∀ w ∈ Bundle.ownAtoms0 "CiteForge" ic cls x_names, w.before args (x_s s T) = true := fun w hw => by
    rcases e2 w hw with h | h | h
    · exact key w h
    · exact hT1.use h args
    · exact hZ1.use h args
  have hW := x_thr (H := T.heap) (ls := ls) (pc := pc) hx hb htr (own := "CiteForge") (cls := cls) (ix := ix) (ic := ic) (s := x_s s T) (R := { rOf d mc ms with cells := mc - k, slots := ms - n }) (p := p) (l := l') (e := e) (m := m) (args := args) (below := below) (meth := meth) (c := c) hown e1 hw (key _ e3) (key _ e4) (key _ e5) (Nat.le_refl _)
    ⟨by show 1 ≤ mc - k; omega, by show 6 ≤ ms - n; omega, by show 6 ≤ d; omega, by show 100 ≤ 100 * d; omega⟩ hlk hno (hl.1.trans hml.symm) hd0 hd3 hd4 hd7
  obtain ⟨U, r0, r1, r2, r3, r4, ce, r5, r6, r7⟩ := hW T rfl X1
  have hkeep : ∀ q : Nat, q < H.size → U.heap[q]? = H[q]? := fun q hq => by
    have hq2 : q < T.heap.size := by rw [hTH]; exact hq
    obtain ⟨cell, hcell⟩ : ∃ cell, T.heap[q]? = some cell := ⟨_, Array.getElem?_eq_getElem hq2⟩
    obtain ⟨c', h1, h2, h3, h4⟩ := r4.2.2.2.2.2 q cell hcell
    have h5 : c'.slots = cell.slots := Array.ext_getElem? fun i => h4 i (by simp)
    have h6 : c' = cell := by rw [h2, h5]
    show U.heap[q]? = _
    rw [show U.heap[q]? = some c' from h1, h6, ← hTH, hcell]
  have hsz : U.heap.size = T.heap.size + 1 := by
    have h1 : U.heap.size ≤ T.heap.size + 1 := r4.2.2.1
    have h2 := (Array.getElem?_eq_some_iff.mp r5).1
    omega
  have hszI : (U.heap.size : Int) = sz + 1 := by
    rw [hsz, hTH]
    omega
  refine ⟨U, r0, hQX U ⟨T.heap.size, r1, r2, T.heap.size, cls, ce, sh, M, rfl, by rw [hszI]; exact hp, ?_, hA, x_sub hS hkeep (by rw [hsz, hTH]; omega), r5, ?_, r7, r3, locs, ?_, hS.2.2⟩⟩
  · intro a kk hkk
    obtain ⟨h0, h1⟩ := hR a kk hkk
    exact ⟨h0, (h1.kept (hkeep _ h1.lt)).moved (show s.vm.Alike U.vm from (show s.WarmedH U.vm from r3).alike)⟩
  · rw [(show s.WarmedH U.vm from r3).alike.findClass]
    exact r6
  · exact (x_same X (U := ({ U with vm := s.vm } : State)) r4).mono hk hn
end GoThrow
