/-! Throws: the thrower's side. -/
section ThrowsA
variable {p : Program} {l : Launch} {e : Env} {R : Room} {s : State} {m : MethodId} {args : Array Value} {below : List Frame} {meth : Method} {c : Code} {T : State} {locs : List Loc} {cells slots : Nat}
/-- the start as it would be if the method were entered with the heap of now -/
abbrev x_s (s T : State) : State := { s with heap := T.heap, slotsUsed := T.slotsUsed }
theorem x_rebase (X : Stand p l e R s m args below meth c T locs cells slots) (hc : cells ≤ R.cells) (hs : slots ≤ R.slots) : Stand p l e { R with cells := R.cells - cells, slots := R.slots - slots } (x_s s T) m args below meth c T [] 0 0 := by
  refine ⟨X.admits, X.cas, X.clock, X.frames, ?_, X.hears, X.method, X.code, X.here, X.tail, X.warmed, X.limits, X.bytes, ?_⟩
  · have h := X.room
    have hz := X.heapSize
    have hu := X.used
    have hb := X.book
    simp only [State.hasRoom, Bool.and_eq_true, decide_eq_true_eq] at h ⊢
    obtain ⟨⟨⟨⟨h1, h2⟩, h3⟩, h4⟩, h5⟩ := h
    refine ⟨⟨⟨⟨h1, h2⟩, ?_⟩, ?_⟩, hb⟩
    · show T.heap.size + (R.cells - cells) ≤ _
      omega
    · show T.slotsUsed + (R.slots - slots) ≤ _
      omega
  · have hd : (T.heap.toList.drop T.heap.size) = [] := List.drop_eq_nil_of_le (by simp)
    refine ⟨X.same.1, Nat.le_refl _, Nat.le_refl _, ?_, ?_, fun a c h => ⟨c, h, rfl, rfl, fun _ _ => rfl⟩⟩
    · show T.slotsUsed = T.slotsUsed + ((T.heap.toList.drop T.heap.size).map (·.slots.size)).sum
      rw [hd]
      rfl
    · show ((T.heap.toList.drop T.heap.size).map (·.slots.size)).sum ≤ 0
      rw [hd]
      exact Nat.le_refl _
/-- what stands at the end, seen from the true start -/
theorem x_same (X : Stand p l e R s m args below meth c T locs cells slots) {U : State} {k n : Nat} (h : (x_s s T).sameButNew U [] k n) : s.sameButNew U locs (cells + k) (slots + n) := by
  have h2 : (T.setVm s.vm).sameButNew U [] k n := by
    refine ⟨?_, h.2⟩
    have e1 := h.1
    have e2 := X.same.1
    rw [e2]
    refine e1.trans ?_
    have e3 : (s.setFrames (T.setVm s.vm).frames).setFrames U.frames = s.setFrames U.frames := State.setFrames_setFrames ..
    have e4 : ({ s.setFrames (T.setVm s.vm).frames with heap := (T.setVm s.vm).heap, slotsUsed := (T.setVm s.vm).slotsUsed } : State).setFrames U.frames = ({ (s.setFrames (T.setVm s.vm).frames).setFrames U.frames with heap := (T.setVm s.vm).heap, slotsUsed := (T.setVm s.vm).slotsUsed } : State) := rfl
    rw [e4, e3]
    rfl
  have h3 := X.same.trans h2
  rwa [List.append_nil] at h3
abbrev x_names : List String := ["java/lang/RuntimeException", "java/lang/Exception"]
/-- throw new E(), from a start whose heap is the one of now -/
theorem x_thr {cc : ByteArray} {H : Heap} (hexec : p.tables.exec = Jvm.exec) (hb : c.code = cc) (htr : e.platform.stackTraces = false) {own cls : String} {ix ic : Nat} (hown : s.vm.findClass own = some m.cls) (hcls : Bundle.fit cls = true) (hw : ∀ a ∈ Bundle.ownAtoms0 own ic cls x_names, a.before args s = true)
    (hcl : (Cond.classLink own ix cls).before args s = true) (hins : (Cond.instantiable cls 6).before args s = true) (hini : (Cond.initialized cls).before args s = true) (hH : s.heap.size ≤ H.size) (hR : 1 ≤ R.cells ∧ 6 ≤ R.slots ∧ 6 ≤ R.frames ∧ 100 ≤ R.locals) (hlk : meth.locks = false) (hno : c.exceptionTable.toList = [])
    {pc : Nat} {ls : Array Slot} (hls : ls.size = c.maxLocals) (hd0 : decode cc pc = .ok (.new ix, 3)) (hd3 : decode cc (pc + 3) = .ok (.dup, 1)) (hd4 : decode cc (pc + 4) = .ok (.invokespecial ic, 3)) (hd7 : decode cc (pc + 7) = .ok (.athrow, 1)) :
    W p l e R s m args below meth c H [] 0 0 (fun U => U.status = .running ∧ Ended U below (.threw H.size) ∧ s.WarmedH U.vm ∧ s.sameButNew ({ U with vm := s.vm } : State) [] 1 6 ∧ ∃ ce, U.heap[H.size]? = some ce ∧ s.vm.findClass cls = some ce.cls ∧ ce.vm = .none) (F0 m pc ls []) := by
  refine W.newc hexec hb hown hcl hins hini rfl hd0 (by omega) (by omega) ?_
  intro cC kC f1 f2 f3 f4
  refine lv_dup hexec hb hd3 rfl ?_
  intro T hT X
  subst hb
  obtain ⟨U, r1, r2, r3, r4, r5, ce, r6, r7⟩ := X.ctorThrow0 hexec htr (own := own) (cls := cls) (names := x_names) (ic := ic) hown hcls (by decide) hw (fun _ h => by cases h) (a := H.size) (cX := cC) (kX := kC) f1 f2 (by rw [hT]; simp) hH
    (g := F0 m (pc + 3 + 1) ls [.ref H.size, .ref H.size]) rfl hls rfl rfl (rest := []) rfl hd4 hd7 (by rw [hno]; intro x hx; cases hx) (by show 2 + 3 < R.frames; omega) (by
      show 2 * 0 + 1 + (13 * (2 + 1) + 41) ≤ R.locals
      omega) hlk
  exact ⟨U, r1, r2, r3, r4, r5, ce, r6, r7.cls, r7.vm⟩
end ThrowsA
