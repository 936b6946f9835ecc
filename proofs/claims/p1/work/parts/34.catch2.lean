/-! A method with handlers: what its walk rests on, its contract, its calls of throwers; the law's calls of such methods. -/
def ncAll : List (String × String) := [("java/lang/IllegalStateException", "java/lang/IllegalArgumentException"), ("java/util/NoSuchElementException", "java/lang/IndexOutOfBoundsException"), ("java/lang/UnsupportedOperationException", "java/lang/IllegalArgumentException"), ("java/lang/IndexOutOfBoundsException", "java/util/NoSuchElementException")]
def e_N (U : State) : Prop := ∀ q ∈ ncAll, va_Nc q.1 q.2 U
theorem e_N.moved {u U : State} (hvm : u.vm.Alike U.vm) (h : e_N u) : e_N U := fun q hq => (h q hq).moved hvm
/-- all that goes along for throws -/
def e_X (U : State) : Prop := e_T U ∧ e_Z U ∧ e_N U
def y_Pre (D : va_G) (av : List Value) (sh : s_S) (M : s_M) (sz : Int) : Array Value → State → Prop := va_Pc av (fun U => ((U.heap.size : Int) = sz ∧ s_R D cAll U sh M U.heap ∧ va_K D cAll [] U ∧ s_N U) ∧ e_X U)
abbrev y_hh (c : Code) : List (Nat × Nat × Nat × Nat) := c.exceptionTable.toList.map (fun h => (h.startPc, h.endPc, h.handlerPc, h.catchType))
def y_C (sh0 : s_S) (sz0 : Int) (hh : List (Nat × Nat × Nat × Nat)) (g : g_X) : Prop := match g with
  | (_, _, _, _, s, _, _, _, _, c, _, _, _, _) => y_hh c = hh ∧ e_X s ∧ ∀ (q : Nat) (cell : Cell), s.heap[q]? = some cell → cell.vm.isStatics = true → ¬ s_fr sh0 sz0 q
def SpW (l : Launch) (D : va_G) (y : MethodName) (cc : ByteArray) (nL : Nat) (ret : Option FieldType) (hh : List (Nat × Nat × Nat × Nat)) (d mc ms : Nat) (av : List Value) (sh : s_S) (M : s_M) (sz : Int) (Po : s_Po) : Prop :=
  Met l y (Cond.codeWith y cc nL ret hh :: wAll) (rOf d mc ms) (y_Pre D av sh M sz) (s_Q D sh sz Po) mc ms (s_fr sh sz)
theorem SpW.ofGo {l : Launch} {D : va_G} {y : MethodName} {cc : ByteArray} {nL : Nat} {ret : Option FieldType} {hh : List (Nat × Nat × Nat × Nat)} {d mc ms : Nat} {av : List Value} {sh : s_S} {M : s_M} {sz : Int} {Po : s_Po} {own nm : String} (hy : plainName y.cls = true) (hown : y.cls = own) (hnm : y.name = nm) (hlen : (lg_sl av).length ≤ nL) {lv : List (Nat × Value)} (hlv : lv_args 0 av = lv)
    (body : ∀ g : g_X, Cx l D cc own nm nL ret d mc ms sh sz Po g → y_C sh sz hh g → Go g 0 0 sh M sz 0 lv []) : SpW l D y cc nL ret hh d mc ms av sh M sz Po := by
  subst hlv
  refine va_MetW (cc := cc) (maxL := nL) (ret := ret) (hh := hh) hy rfl ?_
  intro p e s m args below meth c s₁ B hml hv
  obtain ⟨rfl, ⟨hsz, hR, hK, hN⟩, hX⟩ := hv
  have hts := atoms_spec (ws := Cond.codeWith y cc nL ret hh :: wAll) B.pre
  obtain ⟨m9, meth9, c9, n9, k1, k2, -, -, k7, -⟩ := Cond.codeWith_spec (hts _ List.mem_cons_self)
  cases B.named.symm.trans n9
  cases B.method.symm.trans k1
  cases (Stand.of_body B).code.symm.trans k2
  have hgo := body (p, l, e, rOf d mc ms, s, m, av.toArray, below, meth, c, D, s_fr sh sz, MQ below (s_Q D sh sz Po) av.toArray s mc ms (s_fr sh sz), nL)
    ⟨rfl, rfl, rfl, rfl, rfl, fun _ h => h, B.exec, B.bytes, by rw [← hown]; exact findClass_of_methodNamed B.named, fun w hw => hts w (List.mem_cons_of_mem _ hw), hK, hN, hml, B.returns, B.notSynchronized, by rw [← hnm]; exact (name_of_methodNamed B.named B.method).1, hsz⟩
    ⟨k7, hX, fun q cell h1 h2 => s_R.nfr (U := s) hR hsz h1 h2⟩
  rw [lg_entry_eq]
  exact hgo s.heap [] _ hR (s_dom hR) hsz va_S.rf (lv_entry av hlen)
/-- the handler of a thrown class, by the table's numbers -/
def x_f (own : String) (pc : Nat) (E : String) : List (Nat × Nat × Nat × Nat) → Nat → Prop
  | [], _ => False
  | q :: r, hp => (q.1 ≤ pc ∧ pc < q.2.1 ∧ q.2.2.2 ≠ 0) ∧ ∃ N : String, Cond.classLink own q.2.2.2 N ∈ wAll ∧ ((Cond.castable E N ∈ tAll ∧ hp = q.2.2.1) ∨ ((E, N) ∈ ncAll ∧ x_f own pc E r hp))
theorem x_f.to {args : Array Value} {s : State} {own E : String} {pc hp : Nat} {cx : ClassId} (hts : ∀ w ∈ wAll, w.before args s = true) (hT : e_T s) (hN : e_N s) (hcx : s.vm.findClass E = some cx) : ∀ es : List ExceptionTableEntry, x_f own pc E (es.map (fun h => (h.startPc, h.endPc, h.handlerPc, h.catchType))) hp → x_H args s own cx pc es hp
  | [], h => h.elim
  | x :: r, h => by
    obtain ⟨⟨h1, h2, h3⟩, N, h4, h5⟩ := h
    refine ⟨by simp only [covers, Bool.and_eq_true, decide_eq_true_eq]; exact ⟨h1, h2⟩, h3, N, ?_⟩
    rcases h5 with ⟨h6, h7⟩ | ⟨h6, h7⟩
    · obtain ⟨c3, t3, w1, w2, w3⟩ := Cond.castable_spec (hT.use h6 args)
      cases hcx.symm.trans w1
      exact ⟨t3, hts _ h4, w2, Or.inl ⟨w3, h7⟩⟩
    · obtain ⟨c3, t3, w1, w2, w3⟩ := hN _ h6
      cases hcx.symm.trans w1
      exact ⟨t3, hts _ h4, w2, Or.inr ⟨w3, x_f.to hts hT hN hcx r h7⟩⟩
theorem s_fr_sub {A : Heap} {H : Heap} {locs : List Loc} {sh sh0 : s_S} {sz sz0 : Int} (hA : ∀ a : Int, (sh a).isSome = true → s_fr sh0 sz0 a.toNat) (hz : (H.size : Int) = sz) (hS : va_S (s_fr sh0 sz0) A H locs) (hsz0 : (A.size : Int) = sz0) : ∀ q : Nat, s_fr sh sz q → s_fr sh0 sz0 q := by
  intro q hq
  rcases hq with hq | hq
  · have h1 := hA (q : Int) hq
    rw [Int.toNat_natCast] at h1
    exact h1
  · refine Or.inr ?_
    have := hS.1
    omega
theorem va_S.call {A A' : Nat → Prop} {H0 H H1 : Heap} {locs L : List Loc} (hS : va_S A H0 H locs) (hfr : ∀ q, A' q → A q) (hz : H.size ≤ H1.size) (hk : ∀ q : Nat, q < H.size → ¬ A' q → H1[q]? = H[q]?) (hL : ∀ q ∈ L, A' q.base) : va_S A H0 H1 (locs ++ L) :=
  ⟨Nat.le_trans hS.1 hz, fun q h1 h2 => by rw [hk q (Nat.lt_of_lt_of_le h1 hS.1) (fun z => h2 (hfr q z))]; exact hS.2.1 q h1 h2, fun q hq => by
    rcases List.mem_append.mp hq with h | h
    · exact hS.2.2 q h
    · exact hfr _ (hL q h)⟩
theorem e_X.calls {s U : State} {H : Heap} {locs : List Loc} {A : Nat → Prop} (h : e_X s) (hW : s.WarmedH U.vm) (hst : ∀ (q : Nat) (cell : Cell), s.heap[q]? = some cell → cell.vm.isStatics = true → ¬ A q) (hS : va_S A s.heap H locs) (hU : U.heap = H) : e_X U :=
  ⟨h.1.warm hW, h.2.1.to hW (fun q cell h1 h2 => by rw [hU, hS.2.1 q (Array.getElem?_eq_some_iff.mp h1).1 (hst q cell h1 h2)]; exact h1), h.2.2.moved hW.alike⟩
section GoCatch
variable {l : Launch} {D : va_G} {cc : ByteArray} {own nm : String} {nL : Nat} {ret : Option FieldType} {d mc ms : Nat} {sh0 : s_S} {sz0 : Int} {Po : s_Po} {g : g_X} {k n : Nat} {sh : s_S} {M : s_M} {sz : Int} {pc : Nat} {lv : List (Nat × Value)} {st r : List Value} {hh : List (Nat × Nat × Nat × Nat)}
theorem go_callVx (X : Cx l D cc own nm nL ret d mc ms sh0 sz0 Po g) (YY : y_C sh0 sz0 hh g) {y : MethodName} {bytes : ByteArray} {maxL : Nat} {ret' : Option FieldType} {ix np d' mc' ms' : Nat} {As : List Value} {Po' : s_Po} {Xo' : s_Xo} {b : Int} {ci N : Nat} {T : u_T} {ts : List FieldType} (hc1 : Cond.code y bytes maxL ret' ∈ wAll) (hc2 : Cond.initialized y.cls ∈ wAll) (hc3 : y.cls ≠ "java/lang/invoke/MethodHandle" ∧ y.cls ≠ "java/lang/invoke/VarHandle" ∧ (parseMethodDescriptor y.desc).map (fun d => d.parameters.length) = some np) (hl4 : Cond.methodLink own ix y ∈ wAll) (hw1 : Cond.instanceMethod y ∈ wAll) (hw2 : Cond.selects y.cls y y ∈ wAll)
    (hM : SpX l D y bytes maxL ret' d' mc' ms' (vr b :: As) sh M sz Po' Xo') (hsh : sh b = some (.inl (ci, ts))) (hcl : cAll[ci]? = some (y.cls, T, N)) (hlen : As.length = np) (hst : st = As.reverse ++ vr b :: r) (hdd : d' + 1 ≤ d) (hmx : maxL ≤ 80) (hk : k + mc' ≤ mc) (hn : n + ms' ≤ ms) (hr1 : (r.map fun v => v.category).sum ≤ 8) (hd : decode cc pc = .ok (.invokevirtual ix, 3))
    (kk : ∀ (v : Option Value) (sh' : s_S) (M' : s_M) (sz' : Int), Po' v sh' M' sz' → Go g (k + mc') (n + ms') sh' M' sz' (pc + 3) lv (v.toList ++ r))
    (kx : ∀ (E : String) (sh' : s_S) (M' : s_M) (sz' : Int), Xo' E sh' M' sz' → ∃ hp, x_f own pc E hh hp ∧ ∀ a : Int, Go g (k + mc') (n + ms') sh' M' sz' hp lv [vr a]) : Go g k n sh M sz pc lv st := by
  obtain ⟨p, l', e, R, s, m, args, below, meth, c, D', A, Q, nL'⟩ := g
  obtain ⟨rfl, rfl, rfl, rfl, rfl, hQ, hx, hb, hown, hts, hK, hN, hml, hr, hlk, hnm, hsz0⟩ := X
  obtain ⟨hhh, hX, hsta⟩ := YY
  intro H locs ls hR hA hz hS hl T0 hT XS
  subst hst
  obtain ⟨hb0, hatb⟩ := hR b _ hsh
  obtain ⟨cellB, hcB, hoB, hclB⟩ := va_recv hK (va_one (q := (b.toNat, .inr (ci, s_fs ts (s_row M b)))) hatb) hcl (q0 := 0) rfl
  obtain ⟨mk, methM, hnamed, hmethM, hstM, habM⟩ := Cond.instanceMethod_spec (hts _ hw1)
  obtain ⟨methM', cM, hmethM', hcM, -, hlM, -, -, -, hsigM⟩ := Cond.code_spec hnamed (hts _ hc1)
  cases hmethM.symm.trans hmethM'
  obtain ⟨c2, r2, m2, q1, q2, q3, q4, kP, hkP, hkPi⟩ := Cond.selects_spec (hts _ hw2)
  cases hclB.symm.trans q1
  cases (State.methodFound?_of_named hnamed ⟨hc3.1, hc3.2.1⟩).symm.trans q2
  cases hnamed.symm.trans q3
  have hselP : selectMethod e.platform s.vm cellB.cls mk = .method mk := by rw [Launch.admits_selectMethod XS.admits]; exact q4
  have hnp : As.length = methM.sig.parameters.length := by
    have h1 := hc3.2.2
    rw [hsigM] at h1
    exact hlen.trans (Option.some.inj h1).symm
  obtain ⟨vm₁, X₁, hstep₁⟩ := XS.invokevirtual hx hown (hts _ hl4) hnamed hmethM hstM hkP hkPi ⟨hc3.1, hc3.2.1⟩ (a := b.toNat) (cell := cellB) (by rw [hT]; exact hcB)
    (fun z h => by rw [h] at hoB; cases hoB) hselP hmethM habM hkP hkPi (g := F0 m pc ls (As.reverse ++ vr b :: r)) rfl (argsL := As) (rest := r) hnp rfl (by rw [hb]; exact hd)
  have hW₁ : s.WarmedH vm₁ := X₁.warmed
  have good : ∀ w ∈ wAll, ∀ (av : Array Value) (U : State), s.WarmedH U.vm → w.before av U = true := fun w hw av U hWU => word_at hWU (good_of_word (List.all_eq_true.mp wAll_ok w hw)) (hts w hw)
  have hXc : e_X ((T0.setVm vm₁).calling (F0 m pc ls r) mk (vr b :: As).toArray) := hX.calls (U := (T0.setVm vm₁).calling (F0 m pc ls r) mk (vr b :: As).toArray) hW₁ hsta hS hT
  obtain ⟨o, t, hs, hend, hq⟩ := x_run hM X₁ (g := F0 m pc ls r) rfl (hl.1.trans hml.symm) (ig := .invokevirtual ix) (len := 3) (by rw [hb]; exact hd) (mk := mk) (a := (vr b :: As).toArray) (X₁.named hnamed) (methY := methM) (cY := cM) (by show vm₁.method? mk = _; rw [hW₁.alike.method?]; exact hmethM) hcM (good _ hc2 _ _ hW₁)
    (atoms_intro fun w hw => by
      rcases List.mem_cons.mp hw with h | h
      · rw [h]; exact good _ hc1 _ _ hW₁
      · exact good _ h _ _ hW₁)
    ⟨rfl, ⟨by show (T0.heap.size : Int) = sz; rw [hT]; exact hz, by show s_R _ _ _ _ _ T0.heap; rw [hT]; exact hR.moved hW₁.alike, va_K.moved hW₁.alike hK, hN.warm hW₁⟩, hXc.1, hXc.2.1⟩
    (by show d' + 1 ≤ d; exact hdd) (by
      show 2 * 0 + (r.map fun v => v.category).sum + (cM.maxLocals + 11) + 100 * d' ≤ 100 * d
      rw [hlM]
      omega) (by show k + mc' ≤ mc; exact hk) (by show n + ms' ≤ ms; exact hn)
  have hfr := s_fr_sub hA hz hS hsz0
  have go1 : ∀ tg, Steps p.tables e below t tg → Steps p.tables e below (T0.setTop (F0 m pc ls (As.reverse ++ vr b :: r))) tg := fun tg h => hstep₁ _ fun acts => by
    rw [doInvoke_state]
    exact hs.trans h
  rcases hq with ⟨⟨v, sh', M', ho, hPo, hR', hdom, hz2, hkp⟩, L, ⟨-, hWt, hsame⟩, hL⟩ | ⟨a0, E, ce, sh', M', ho, hXo, hR', hdom, ⟨hz2, hkp⟩, hce, hfc, hvm, hWt, L, hsame, hL⟩
  · subst ho
    obtain ⟨T', X', w1, w2, ht⟩ := X₁.outOf (g := F0 m pc ls r) rfl (ig := .invokevirtual ix) (len := 3) (by rw [hb]; exact hd) hend hWt hsame
    have e1 : t.heap = T'.heap := by rw [ht]; rfl
    have e2 : t.vm = T'.vm := by rw [ht]; rfl
    obtain ⟨t2, a1, b1⟩ := kk v sh' M' (t.heap.size : Int) hPo T'.heap (locs ++ L) ls (by rw [← e1]; exact hR'.moved (by rw [e2]; exact X'.warmed.alike.symm)) (fun b hb => hfr _ (hdom b hb)) (by rw [e1])
      (hS.call hfr (by rw [← e1, ← hT]; exact hz2) (fun q h1 h2 => by rw [← e1, ← hT]; exact hkp q (by rw [← hT] at h1; exact h1) h2) hL) hl T' rfl X'
    exact ⟨t2, go1 t2 (by rw [ht]; exact a1), b1⟩
  · subst ho
    obtain ⟨T', X', w1, w2, ht⟩ := X₁.outOfThrown (g := F0 m pc ls r) rfl hend hWt hsame
    have e1 : t.heap = T'.heap := by rw [ht]; rfl
    have e2 : t.vm = T'.vm := by rw [ht]; rfl
    obtain ⟨hp, hxf, kgo⟩ := kx E sh' M' (t.heap.size : Int) hXo
    have hcx : s.vm.findClass E = some ce.cls := by
      rw [← X'.warmed.alike.findClass, ← e2]
      exact hfc
    subst hhh
    obtain ⟨vm', X'', st2⟩ := x_caught X' (g := F0 m pc ls r) rfl hown (a := a0) (cell := ce) (by rw [← e1]; exact hce) hvm hcx (x_f.to hts hX.1 hX.2.2 hcx _ hxf)
    obtain ⟨t2, a1, b1⟩ := kgo (a0 : Int) T'.heap (locs ++ L) ls (by rw [← e1]; exact hR'.moved (by rw [e2]; exact X'.warmed.alike.symm)) (fun b hb => hfr _ (hdom b hb)) (by rw [e1])
      (hS.call hfr (by rw [← e1, ← hT]; exact hz2) (fun q h1 h2 => by rw [← e1, ← hT]; exact hkp q (by rw [← hT] at h1; exact h1) h2) hL) hl (T'.setVm vm') rfl X''
    exact ⟨t2, go1 t2 (by rw [ht]; exact st2 t2 a1), b1⟩
end GoCatch
