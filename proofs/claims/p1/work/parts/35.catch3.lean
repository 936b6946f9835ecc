section GoCatchS
variable {l : Launch} {D : va_G} {cc : ByteArray} {own nm : String} {nL : Nat} {ret : Option FieldType} {d mc ms : Nat} {sh0 : s_S} {sz0 : Int} {Po : s_Po} {g : g_X} {k n : Nat} {sh : s_S} {M : s_M} {sz : Int} {pc : Nat} {lv : List (Nat × Value)} {st r : List Value} {hh : List (Nat × Nat × Nat × Nat)}
/-- a call of a static method with handlers -/
theorem go_callSW (X : Cx l D cc own nm nL ret d mc ms sh0 sz0 Po g) (YY : y_C sh0 sz0 hh g) {y : MethodName} {bytes : ByteArray} {maxL : Nat} {ret' : Option FieldType} {hh' : List (Nat × Nat × Nat × Nat)} {ix np d' mc' ms' : Nat} {As : List Value} {Po' : s_Po} (hc1 : Cond.codeWith y bytes maxL ret' hh' ∈ wAll) (hc2 : Cond.initialized y.cls ∈ wAll) (hc3 : y.cls ≠ "java/lang/invoke/MethodHandle" ∧ y.cls ≠ "java/lang/invoke/VarHandle" ∧ (parseMethodDescriptor y.desc).map (fun d => d.parameters.length) = some np) (hl4 : Cond.methodLink own ix y ∈ wAll) (hw1 : Cond.static y ∈ wAll)
    (hM : SpW l D y bytes maxL ret' hh' d' mc' ms' As sh M sz Po') (hlen : As.length = np) (hst : st = As.reverse ++ r) (hdd : d' + 1 ≤ d) (hmx : maxL ≤ 80) (hk : k + mc' ≤ mc) (hn : n + ms' ≤ ms) (hr1 : (r.map fun v => v.category).sum ≤ 8) (hd : decode cc pc = .ok (.invokestatic ix, 3))
    (kk : ∀ (v : Option Value) (sh' : s_S) (M' : s_M) (sz' : Int), Po' v sh' M' sz' → Go g (k + mc') (n + ms') sh' M' sz' (pc + 3) lv (v.toList ++ r)) : Go g k n sh M sz pc lv st := by
  obtain ⟨p, l', e, R, s, m, args, below, meth, c, D', A, Q, nL'⟩ := g
  obtain ⟨rfl, rfl, rfl, rfl, rfl, hQ, hx, hb, hown, hts, hK, hN, hml, hr, hlk, hnm, hsz0⟩ := X
  obtain ⟨hhh, hX, hsta⟩ := YY
  intro H locs ls hR hA hz hS hl T0 hT XS
  subst hst
  obtain ⟨mk, methM, cM, hnamed, hmethM, hcM, -, hlM, -, -, -, hsigM⟩ := Cond.codeWith_spec (hts _ hc1)
  have hstatic : methM.isStatic = true := Cond.static_spec hnamed hmethM (hts _ hw1)
  obtain ⟨kP, hkP, -⟩ := className_of_methodNamed hnamed
  have hinitP : kP.init = .initialized := Cond.initialized_spec (findClass_of_methodNamed hnamed) hkP (hts _ hc2)
  have hnp : As.length = methM.sig.parameters.length := by
    have h1 := hc3.2.2
    rw [hsigM] at h1
    exact hlen.trans (Option.some.inj h1).symm
  obtain ⟨vm₁, X₁, hstep₁⟩ := XS.invokestatic hx hown (hts _ hl4) hnamed hmethM hstatic hkP hinitP ⟨hc3.1, hc3.2.1⟩ (g := F0 m pc ls (As.reverse ++ r)) rfl (argsL := As) (rest := r) hnp rfl (by rw [hb]; exact hd)
  have hW₁ : s.WarmedH vm₁ := X₁.warmed
  have good : ∀ w ∈ wAll, ∀ (av : Array Value) (U : State), s.WarmedH U.vm → w.before av U = true := fun w hw av U hWU => word_at hWU (good_of_word (List.all_eq_true.mp wAll_ok w hw)) (hts w hw)
  have hXc : e_X ((T0.setVm vm₁).calling (F0 m pc ls r) mk As.toArray) := hX.calls (U := (T0.setVm vm₁).calling (F0 m pc ls r) mk As.toArray) hW₁ hsta hS hT
  have hM2 : MetFree l' y (headSpec (Cond.codeWith y bytes maxL ret' hh' :: wAll) (rOf d' mc' ms')) (y_Pre D' As sh M sz) (fun _ _ _ _ _ => True) (fun a st o t => s_Q D' sh sz Po' a st o t ∧ ∃ L, FrameEnd st o t L mc' ms' ∧ ∀ q ∈ L, s_fr sh sz q.base) := hM
  obtain ⟨o, t, hs, hend, hq⟩ := x_run hM2 X₁ (g := F0 m pc ls r) rfl (hl.1.trans hml.symm) (ig := .invokestatic ix) (len := 3) (by rw [hb]; exact hd) (mk := mk) (a := As.toArray) (X₁.named hnamed) (methY := methM) (cY := cM) (by show vm₁.method? mk = _; rw [hW₁.alike.method?]; exact hmethM) hcM (good _ hc2 _ _ hW₁)
    (atoms_intro fun w hw => by
      rcases List.mem_cons.mp hw with h | h
      · rw [h]; exact good _ hc1 _ _ hW₁
      · exact good _ h _ _ hW₁)
    ⟨rfl, ⟨by show (T0.heap.size : Int) = sz; rw [hT]; exact hz, by show s_R _ _ _ _ _ T0.heap; rw [hT]; exact hR.moved hW₁.alike, va_K.moved hW₁.alike hK, hN.warm hW₁⟩, hXc⟩
    (by show d' + 1 ≤ d; exact hdd) (by
      show 2 * 0 + (r.map fun v => v.category).sum + (cM.maxLocals + 11) + 100 * d' ≤ 100 * d
      rw [hlM]
      omega) (by show k + mc' ≤ mc; exact hk) (by show n + ms' ≤ ms; exact hn)
  have hfr := s_fr_sub hA hz hS hsz0
  obtain ⟨⟨v, sh', M', ho, hPo, hR', hdom, hz2, hkp⟩, L, ⟨-, hWt, hsame⟩, hL⟩ := hq
  subst ho
  obtain ⟨T', X', w1, w2, ht⟩ := X₁.outOf (g := F0 m pc ls r) rfl (ig := .invokestatic ix) (len := 3) (by rw [hb]; exact hd) hend hWt hsame
  have e1 : t.heap = T'.heap := by rw [ht]; rfl
  have e2 : t.vm = T'.vm := by rw [ht]; rfl
  obtain ⟨t2, a1, b1⟩ := kk v sh' M' (t.heap.size : Int) hPo T'.heap (locs ++ L) ls (by rw [← e1]; exact hR'.moved (by rw [e2]; exact X'.warmed.alike.symm)) (fun b hb => hfr _ (hdom b hb)) (by rw [e1])
    (hS.call hfr (by rw [← e1, ← hT]; exact hz2) (fun q h1 h2 => by rw [← e1, ← hT]; exact hkp q (by rw [← hT] at h1; exact h1) h2) hL) hl T' rfl X'
  exact ⟨t2, hstep₁ _ (fun acts => by
    rw [doInvoke_state]
    exact hs.trans (by rw [ht]; exact a1)), b1⟩
end GoCatchS
/-! Where the words of the heap come from. -/
theorem z_lays {args av : Array Value} {s V : State} {C n d : String} {a : Nat} {cell : Cell} (h : (Cond.laysStatic C n d).before args s = true) (hW : s.WarmedH V.vm) (hc : s.heap[a]? = some cell) (ha : ∀ c k i f b, s.fieldFound? C n d = some (c, k, i, f) → k.statics = some b → b = a) (hV : V.heap[a]? = some cell) : (Cond.laysStatic C n d).before av V = true := by
  obtain ⟨c, k, i, f, b, cell2, h1, h2, h3, h4, h5, h6, h7, h8, h9⟩ := Cond.laysStatic_spec h
  cases ha c k i f b h2 h4
  cases hc.symm.trans h5
  obtain ⟨k', hi', he⟩ := State.fieldFound?_setVm hW.alike h2
  have hi2 : V.fieldFound? C n d = some (c, k', i, f) := hi'
  have h1' : V.vm.findClass C = some c := by rw [hW.alike.findClass]; exact h1
  have h4' : k'.statics = some a := by rw [he]; exact h4
  have h9' : k'.staticTypes[f.slot]? = some f.type := by rw [he]; exact h9
  have h8' : ∃ z, cell.slots[f.slot]? = some z := ⟨_, Array.getElem?_eq_getElem h8⟩
  simp [Cond.before, Cond.holds, Cond.value, h1', hi2, h3, h4', hV, h6, h7, h8, h9']
theorem z_isRef {args av : Array Value} {s V : State} {C n d : String} {a : Nat} {cell : Cell} (hl : (Cond.laysStatic C n d).before args s = true) (h : (Cond.isRef (.static C n d)).before args s = true) (hW : s.WarmedH V.vm) (hc : s.heap[a]? = some cell) (ha : ∀ c k i f b, s.fieldFound? C n d = some (c, k, i, f) → k.statics = some b → b = a) (hV : V.heap[a]? = some cell) : (Cond.isRef (.static C n d)).before av V = true := by
  obtain ⟨c, k, i, f, b, cell2, h1, h2, h3, h4, h5, h6, h7, h8, h9⟩ := Cond.laysStatic_spec hl
  cases ha c k i f b h2 h4
  cases hc.symm.trans h5
  obtain ⟨k', hi', he⟩ := State.fieldFound?_setVm hW.alike h2
  have hi2 : V.fieldFound? C n d = some (c, k', i, f) := hi'
  have h4' : k'.statics = some a := by rw [he]; exact h4
  cases hv : (Term.static C n d).eval args s none [] s with
  | none => simp [Cond.before, Cond.holds, Cond.value, hv] at h
  | some w =>
    obtain ⟨-, b2, cell3, g1, g2, -, g3⟩ := Term.static_spec h2 hv
    cases h4.symm.trans g1
    cases hc.symm.trans g2
    have hv2 : (Term.static C n d).eval av V none [] V = some w := by
      simp [Term.eval, State.fieldNamed?, hi2, h3, h4', hV, h6, g3]
    simp only [Cond.before, Cond.holds, Cond.value, hv] at h
    simp only [Cond.before, Cond.holds, Cond.value, hv2]
    exact h
theorem e_Z.of {args : Array Value} {s : State} (h : ∀ w ∈ zAll, w.before args s = true) : e_Z s := by
  have a1 := h (.laysStatic x_tN "UNASSIGNED_STACK" x_ste) (by simp [zAll])
  have a2 := h (.laysStatic x_tN "SUPPRESSED_SENTINEL" x_lst) (by simp [zAll])
  have a3 := h (.isRef (.static x_tN "UNASSIGNED_STACK" x_ste)) (by simp [zAll])
  have a4 := h (.isRef (.static x_tN "SUPPRESSED_SENTINEL" x_lst)) (by simp [zAll])
  obtain ⟨c, k, i, f, b, cell, h1, h2, h3, h4, h5, h6, h7, h8, h9⟩ := Cond.laysStatic_spec a1
  obtain ⟨c', k', i', f', b', cell', g1, g2, g3, g4, g5, g6, g7, g8, g9⟩ := Cond.laysStatic_spec a2
  cases h1.symm.trans g1
  have hk : k = k' := by
    have e1 := (State.fieldFound?_spec h2).1
    have e2 := (State.fieldFound?_spec g2).1
    exact Option.some.inj (e1.symm.trans e2)
  subst hk
  cases h4.symm.trans g4
  cases h5.symm.trans g5
  refine ⟨b, cell, h5, h6, fun V av hW hV w hw => ?_⟩
  have u1 : ∀ c0 k0 i0 f0 b0, s.fieldFound? x_tN "UNASSIGNED_STACK" x_ste = some (c0, k0, i0, f0) → k0.statics = some b0 → b0 = b := fun c0 k0 i0 f0 b0 q1 q2 => by
    cases h2.symm.trans q1
    exact (Option.some.inj (h4.symm.trans q2)).symm
  have u2 : ∀ c0 k0 i0 f0 b0, s.fieldFound? x_tN "SUPPRESSED_SENTINEL" x_lst = some (c0, k0, i0, f0) → k0.statics = some b0 → b0 = b := fun c0 k0 i0 f0 b0 q1 q2 => by
    cases g2.symm.trans q1
    exact (Option.some.inj (h4.symm.trans q2)).symm
  simp only [zAll, List.mem_cons, List.not_mem_nil, or_false] at hw
  rcases hw with rfl | rfl | rfl | rfl
  · exact z_lays a1 hW h5 u1 hV
  · exact z_lays a2 hW h5 u2 hV
  · exact z_isRef a1 a3 hW h5 u1 hV
  · exact z_isRef a2 a4 hW h5 u2 hV
