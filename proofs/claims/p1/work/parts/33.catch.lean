/-! Throws: the catcher's side. -/
section CatchA
variable {e : Env} {f : JFrame} {a : Addr}
/-- one row of a handlers' table whose class may still be open: it is noted, and takes the object or lets it pass -/
theorem x_go1 {Q : Handler → Pre} {E : CtlPost} {d : Bool} {acts : List Action} {s : State} {x : ExceptionTableEntry} {t : List ExceptionTableEntry} {c : ClassId} {cell : Cell} (hx : covers x f.pc = true) (h0 : x.catchType ≠ 0) (hl : s.vm.ClassLinks e.platform f.method.cls x.catchType c) (hcell : s.heap[a]? = some cell) (hobj : ∀ k, cell.vm ≠ .statics k)
    (hk : ∃ k, s.vm.classes[cell.cls]? = some k) (hc : ∃ k, s.vm.classes[c]? = some k) :
    wp (findHandler.go f a (x :: t)) Q E e d acts s ↔ if s.vm.assignable cell.cls c = true then Q (.found x.handlerPc) d acts (s.setVm (s.vm.noted f.method.cls x.catchType (.cls c))) else wp (findHandler.go f a t) Q E e d acts (s.setVm (s.vm.noted f.method.cls x.catchType (.cls c))) := by
  have hal : s.vm.Alike (s.vm.noted f.method.cls x.catchType (.cls c)) := (Vm.Alike.refl s.vm).noted _ _ _
  obtain ⟨ha, ht⟩ := (resolveClass_links e.toSetting hl).op (op := VmOp.resolveClass f.method.cls x.catchType) rfl
  obtain ⟨k1, hk1⟩ := hk
  obtain ⟨k2, hk2⟩ := hc
  obtain ⟨k3, hk3, -⟩ := hal.2.2 _ _ hk1
  obtain ⟨k4, hk4, -⟩ := hal.2.2 _ _ hk2
  simp only [covers] at hx
  cases hq : s.vm.assignable cell.cls c
  · have hq2 : (s.vm.noted f.method.cls x.catchType (.cls c)).assignable cell.cls c = false := by rw [hal.assignable]; exact hq
    simp [findHandler.go, hx, h0, ha, ht, hcell, hobj, hk3, hk4, hq2, VmOp.dirties, VmOp.acts]
  · have hq2 : (s.vm.noted f.method.cls x.catchType (.cls c)).assignable cell.cls c = true := by rw [hal.assignable]; exact hq
    simp [findHandler.go, hx, h0, ha, ht, hcell, hobj, hk3, hk4, hq2, VmOp.dirties, VmOp.acts]
/-- the row that takes an object of the class numbered cx -/
def x_H (args : Array Value) (s : State) (own : String) (cx : ClassId) (pc : Nat) : List ExceptionTableEntry → Nat → Prop
  | [], _ => False
  | x :: r, hp => covers x pc = true ∧ x.catchType ≠ 0 ∧ ∃ (N : String) (cT : ClassId), (Cond.classLink own x.catchType N).before args s = true ∧ s.vm.findClass N = some cT ∧ ((s.vm.assignable cx cT = true ∧ hp = x.handlerPc) ∨ (s.vm.assignable cx cT = false ∧ x_H args s own cx pc r hp))
theorem x_search {args : Array Value} {s : State} {own : String} (hpl : e.platform.magicAccessors = ({} : Platform).magicAccessors) (hown : s.vm.findClass own = some f.method.cls) {cell : Cell} (hobj : ∀ k, cell.vm ≠ .statics k) {N0 : String} (hcx : s.vm.findClass N0 = some cell.cls) {hp : Nat} : ∀ (es : List ExceptionTableEntry) (S : State), s.WarmedH S.vm → S.heap[a]? = some cell → x_H args s own cell.cls f.pc es hp →
    ∃ vm', s.WarmedH vm' ∧ ∀ (Q : Handler → Pre) (E : CtlPost) (d : Bool) (acts : List Action), wp (findHandler.go f a es) Q E e d acts S ↔ Q (.found hp) d acts (S.setVm vm')
  | [], S, hW, hc, h => h.elim
  | x :: r, S, hW, hc, h => by
    obtain ⟨h1, h2, N, cT, h3, h4, h5⟩ := h
    obtain ⟨c', hc', hcl⟩ := Cond.classLink_spec hown h3 e.platform hpl
    cases h4.symm.trans hc'
    obtain ⟨dk, _, _, kt, hd, _, _, _, _, hkt, _, hopen⟩ := hcl.here
    have hcl₀ := hW.classLinks hcl
    have hW' : s.WarmedH (S.vm.noted f.method.cls x.catchType (.cls cT)) := hW.noted hd hopen (State.rightAt_cls hcl)
    have hal := hW.alike
    obtain ⟨kt', hkt', -⟩ := hal.2.2 _ _ hkt
    obtain ⟨kc, hkc⟩ := Vm.classAt_of_findClass hcx
    obtain ⟨kc', hkc', -⟩ := hal.2.2 _ _ hkc
    rcases h5 with ⟨h6, h7⟩ | ⟨h6, h7⟩
    · refine ⟨_, hW', fun Q E d acts => ?_⟩
      rw [x_go1 h1 h2 hcl₀ hc hobj ⟨kc', hkc'⟩ ⟨kt', hkt'⟩, if_pos (by rw [hal.assignable]; exact h6), h7]
    · obtain ⟨vm', k1, k2⟩ := x_search hpl hown hobj hcx r (S.setVm (S.vm.noted f.method.cls x.catchType (.cls cT))) hW' hc h7
      refine ⟨vm', k1, fun Q E d acts => ?_⟩
      rw [x_go1 h1 h2 hcl₀ hc hobj ⟨kc', hkc'⟩ ⟨kt', hkt'⟩, if_neg (by rw [hal.assignable, h6]; simp)]
      exact k2 Q E d acts
end CatchA
section CatchB
variable {p : Program} {l : Launch} {e : Env} {R : Room} {s : State} {m : MethodId} {args : Array Value} {below : List Frame} {meth : Method} {c : Code} {T : State} {locs : List Loc} {cells slots : Nat}
/-- from the note of a thrown object to the handler -/
theorem x_caught (X : Stand p l e R s m args below meth c T locs cells slots) {g : JFrame} (hg : g.method = m) {own N0 : String} (hown : s.vm.findClass own = some m.cls) {a : Addr} {cell : Cell} (hcell : T.heap[a]? = some cell) (hvm : cell.vm = .none) (hcx : s.vm.findClass N0 = some cell.cls) {hp : Nat} (hh : x_H args s own cell.cls g.pc c.exceptionTable.toList hp) :
    ∃ vm', Stand p l e R s m args below meth c (T.setVm vm') locs cells slots ∧ ∀ tg, Steps p.tables e below ((T.setVm vm').setTop { g with pc := hp, stack := [.ref a] }) tg → Steps p.tables e below ((T.setTop g).pushFrame (.throwing a)) tg := by
  have hpl : e.platform.magicAccessors = ({} : Platform).magicAccessors := by rw [X.admits.platform]
  subst hg
  obtain ⟨vm', k1, k2⟩ := x_search (e := e) (f := g) (a := a) (cell := cell) hpl hown (fun k => by rw [hvm]; intro h; cases h) hcx c.exceptionTable.toList ((T.setTop g).pushFrame (.throwing a)) X.warmed hcell hh
  refine ⟨vm', X.noted k1, fun tg hrest => ?_⟩
  obtain ⟨hgo, hw⟩ := X.here.throwing a
  refine Steps.head hgo hw ?_
  have hstep : (stepThrowing e ((T.setTop g).pushFrame (.throwing a)) a (.java g :: T.frames.tail)).Is ((((T.setTop g).pushFrame (.throwing a)).setVm vm').setFrames (.java { g with pc := hp, stack := [.ref a] } :: T.frames.tail)) [] := by
    have k3 : ∀ (Q : Handler → Pre) (E : CtlPost) (d : Bool) (acts : List Action), wp (findHandler g a) Q E e d acts ((T.setTop g).pushFrame (.throwing a)) ↔ Q (.found hp) d acts (((T.setTop g).pushFrame (.throwing a)).setVm vm') := fun Q E d acts => by
      rw [W.findHandler_eq (s := (T.setTop g).pushFrame (.throwing a)) X.method' X.code]
      exact k2 Q E d acts
    simp only [stepThrowing, searchFrame, vmDo]
    generalize hr : Sem.go _ e false [] ((T.setTop g).pushFrame (.throwing a)) = res
    obtain ⟨as, rfl, ha⟩ := Sem.eq_ok_of hr (a := Handler.found hp) (s' := ((T.setTop g).pushFrame (.throwing a)).setVm vm') (acts' := []) (by simp [k3 _ _ _ _])
    exact ⟨rfl, ha⟩
  rw [stepThread_throwing (frames_entered X.here.top _), hstep.1]
  obtain ⟨g₀, hg0⟩ := Option.isSome_iff_exists.mp X.here.top
  obtain ⟨r, hr⟩ := State.topJava?_eq_some.mp hg0
  rw [State.setTop_of_frames _ (show (T.setVm vm').frames = .java g₀ :: r from hr)] at hrest
  rw [hr, List.tail_cons, State.pushFrame, State.setTop_of_frames _ hr]
  have e1 : ∀ (F G K : List Frame), (((T.setFrames F).setFrames G).setVm vm').setFrames K = (T.setVm vm').setFrames K := fun F G K => by
    rw [State.setFrames_setFrames]
    have e2 : (T.setFrames G).setVm vm' = (T.setVm vm').setFrames G := rfl
    rw [e2, State.setFrames_setFrames]
  rw [e1]
  exact hrest
/-- a call of a method that has a free contract, from the note of the invocation on -/
theorem x_run {y : MethodName} {S : Spec} {P : Array Value → State → Prop} {Q : Array Value → State → Outcome → State → Prop} (hM : MetFree l y S P (fun _ _ _ _ _ => True) Q) (X : Stand p l e R s m args below meth c T locs cells slots) {g : JFrame} (hg : g.method = m) (hsize : g.locals.size = c.maxLocals) {ig : Instr} {len : Nat} (hdg : decode c.code g.pc = .ok (ig, len)) {mk : MethodId} {a : Array Value} (hn : T.methodNamed? y = some mk) {methY : Method} {cY : Code} (hmY : T.vm.method? mk = some methY) (hcY : methY.code = some cY)
    (hini : (Cond.initialized y.cls).before a T = true) (hpre : S.pre.before a T = true) (hP : P a (T.calling g mk a)) (hframes : S.room.frames + 1 ≤ R.frames) (hlocals : 2 * g.monitorRoom + (g.stack.map fun v => v.category).sum + (cY.maxLocals + 11) + S.room.locals ≤ R.locals) (hcells : cells + S.room.cells ≤ R.cells) (hslots : slots + S.room.slots ≤ R.slots) :
    ∃ o t, Steps p.tables e below (doInvoke e (T.setTop g) [] mk a).1 t ∧ Ended t (.java g :: below) o ∧ Q a (T.calling g mk a) o t := by
  obtain ⟨kY, hkY, -⟩ := className_of_methodNamed hn
  have hinitY : kY.init = .initialized := Cond.initialized_spec (findClass_of_methodNamed hn) hkY hini
  have h : At T g.method c below := by rw [hg]; exact X.here
  have happ : S.appliesLoose y e.platform (T.calling g mk a) = true := Spec.appliesLoose_calling (g := g) h hdg hn hkY hinitY (X.room_calling (g := g) (R' := S.room) hsize hmY hcY hframes hlocals hcells hslots) hpre
  obtain ⟨mid, hmid⟩ := h.above
  have hfr : (T.setTop g).frames = (.java g :: mid) ++ below := by rw [State.frames_setTop' g h.top, hmid]; rfl
  obtain ⟨o, t, hsteps, -, hend, hq⟩ := Steps.callFree hM p X.admits X.cas X.clock (acts := []) hfr happ hP trivial
  rw [State.frames_setTop' g h.top, X.tail] at hend
  exact ⟨o, t, hsteps, hend, hq⟩
end CatchB
