/-! THE CLAIM OUT OF ONE WALK OF THE LAW'S BODY. Your part is whole_start (and what it stands on); all else here is the same for every law, but numbers. -/
def R_law : String := "CiteForgeLaw"
def lw_P (b : Addr) (xs : List Int32) (args : Array Value) (s : State) : Prop := args = #[.ref b] ∧ s.IntsAt b xs ∧ xs.length ≤ 2560 ∧ (Jvm.Cond.and given_1 narrow_1).before args s = true
def lw_Q (_ : Array Value) (s : State) (o : Outcome) (t : State) : Prop := o = .returned (some (.int 1)) ∧ Framed s o t [] 601024 7293034
def lw_Z (below : List Frame) (a : Array Value) (s : State) : State → Prop := fun t => ∃ o, t.status = .running ∧ Ended t below o ∧ lw_Q a s o t
/-- the law's own end, with 1 on the stack, nothing written that was there before, its room as the claim has it -/
theorem lw_ret {p : Program} {l : Launch} {e : Env} {s : State} {m : MethodId} {below : List Frame} {meth : Method} {c : Code} {b : Nat} (hx : p.tables.exec = Jvm.exec) (hb : c.code = code) (hr : meth.sig.returnType = ret) (hlocks : meth.locks = false) {pc : Nat} {H : Heap} {ls : Array Slot} (hdg : decode code pc = .ok (.ireturn, 1)) : W p l e room_1 s m #[Value.ref b] below meth c H [] 601024 7293034 (lw_Z below #[Value.ref b] s) (F0 m pc ls [.int 1]) := by
  intro T hT X
  obtain ⟨fs, hret, hrun, hended, hW, hframe⟩ := X.leave (v := some (.int 1)) (hlocks := hlocks) (fun h => by rw [hr] at h; cases h)
  have hmeth' : T.vm.method? m = some meth := X.method'
  refine ⟨T.setFrames fs, ?_, .returned (some (.int 1)), hrun, hended, rfl, ⟨_, rfl⟩, hW, hframe⟩
  jvm_step X.here [X.here.top, hx, hb, hdg, hmeth', hr, ret, narrow_b1]
  (try refine ⟨rfl, ?_⟩); (try refine ⟨rfl, ?_⟩)
  first | (intro acts; rw [hret _ acts rfl rfl rfl]) | rw [hret _ _ rfl rfl rfl]
  exact Steps.refl _
/-- what holds at the law's entry: the machine, the code, the tables' words (any of lw_tbl by 'hts w (by decide +kernel)'), the script of L ints xs at the cell b, what the Statement gives of the start (any of its parts by flat_of_before) -/
def lw_At (p : Program) (s : State) (m : MethodId) (meth : Method) (c : Code) (b L : Nat) (xs : Nat → Int32) : Prop :=
  p.tables.exec = Jvm.exec ∧ c.code = code ∧ meth.sig.returnType = ret ∧ c.maxLocals = 8 ∧ s.vm.findClass R_law = some m.cls ∧ (∀ w ∈ lw_tbl, w.before #[Value.ref b] s = true) ∧ va_X b L xs s s.heap ∧ b < s.heap.size ∧ meth.locks = false ∧ (Jvm.Cond.and given_1 narrow_1).before #[Value.ref b] s = true
/-! What goes along from the claim's start. -/
theorem W.room {p : Program} {l : Launch} {e : Env} {R R' : Room} {s : State} {m : MethodId} {args : Array Value} {below : List Frame} {meth : Method} {c : Code} {H : Heap} {locs : List Loc} {k n : Nat} {Q : State → Prop} {g : JFrame} (h1 : R'.frames ≤ R.frames) (h2 : R'.locals ≤ R.locals) (h3 : R'.cells ≤ R.cells) (h4 : R'.slots ≤ R.slots) (w : W p l e R' s m args below meth c H locs k n Q g) : W p l e R s m args below meth c H locs k n Q g := fun T hT X => by
  refine w T hT ⟨X.admits, X.cas, X.clock, X.frames, ?_, X.hears, X.method, X.code, X.here, X.tail, X.warmed, X.limits, X.bytes, X.same⟩
  have h := X.room
  simp only [State.hasRoom, Bool.and_eq_true, decide_eq_true_eq] at h ⊢
  obtain ⟨⟨⟨⟨q1, q2⟩, q3⟩, q4⟩, q5⟩ := h
  exact ⟨⟨⟨⟨by omega, by omega⟩, by omega⟩, by omega⟩, q5⟩
theorem lw_frame0 {s t : State} {o : Outcome} {L : List Loc} {k n : Nat} (h : FrameEnd s o t L k n) (hL : ∀ q ∈ L, s.heap.size ≤ q.base) : Framed s o t [] k n := by
  obtain ⟨h1, h2, h3⟩ := h
  refine ⟨h1, h2, h3.1, h3.2.1, h3.2.2.1, h3.2.2.2.1, h3.2.2.2.2.1, fun a c hc => ?_⟩
  obtain ⟨c', g1, g2, g3, g4⟩ := h3.2.2.2.2.2 a c hc
  refine ⟨c', g1, g2, g3, fun i _ => g4 i (fun hm => ?_)⟩
  have e1 : s.heap.size ≤ a := hL _ hm
  have e2 := (Array.getElem?_eq_some_iff.mp hc).1
  omega
theorem lw_known {args : Array Value} {s : State} (hts : ∀ w ∈ wAll, w.before args s = true) : ∃ D : va_G, va_K D cAll [] s := by
  obtain ⟨c0, i0, k0⟩ := u_known hts cls0_ok.2.1 (hts _ w_in_0)
  obtain ⟨c1, i1, k1⟩ := u_known hts cls1_ok.2.1 (hts _ w_in_1)
  obtain ⟨c2, i2, k2⟩ := u_known hts cls2_ok.2.1 (hts _ w_in_2)
  obtain ⟨c3, i3, k3⟩ := u_known hts cls3_ok.2.1 (hts _ w_in_3)
  obtain ⟨c4, i4, k4⟩ := u_known hts cls4_ok.2.1 (hts _ w_in_4)
  obtain ⟨c5, i5, k5⟩ := u_known hts cls5_ok.2.1 (hts _ w_in_5)
  obtain ⟨c6, i6, k6⟩ := u_known hts cls6_ok.2.1 (hts _ w_in_6)
  obtain ⟨c7, i7, k7⟩ := u_known hts cls7_ok.2.1 (hts _ w_in_7)
  obtain ⟨c8, i8, k8⟩ := u_known hts cls8_ok.2.1 (hts _ w_in_8)
  obtain ⟨c9, i9, k9⟩ := u_known hts cls9_ok.2.1 (hts _ w_in_9)
  obtain ⟨c10, i10, k10⟩ := u_known hts cls10_ok.2.1 (hts _ w_in_10)
  obtain ⟨c11, i11, k11⟩ := u_known hts cls11_ok.2.1 (hts _ w_in_11)
  have h : ∀ c : Nat, ∃ d : ClassId × (Nat → Nat), ∀ q, cAll[c]? = some q → u_Kn s q.1 q.2.1 q.2.2 d.1 d.2 := fun c => match c with
    | 0 => ⟨(c0, i0), fun q hq => by cases cls0.symm.trans hq; exact k0⟩
    | 1 => ⟨(c1, i1), fun q hq => by cases cls1.symm.trans hq; exact k1⟩
    | 2 => ⟨(c2, i2), fun q hq => by cases cls2.symm.trans hq; exact k2⟩
    | 3 => ⟨(c3, i3), fun q hq => by cases cls3.symm.trans hq; exact k3⟩
    | 4 => ⟨(c4, i4), fun q hq => by cases cls4.symm.trans hq; exact k4⟩
    | 5 => ⟨(c5, i5), fun q hq => by cases cls5.symm.trans hq; exact k5⟩
    | 6 => ⟨(c6, i6), fun q hq => by cases cls6.symm.trans hq; exact k6⟩
    | 7 => ⟨(c7, i7), fun q hq => by cases cls7.symm.trans hq; exact k7⟩
    | 8 => ⟨(c8, i8), fun q hq => by cases cls8.symm.trans hq; exact k8⟩
    | 9 => ⟨(c9, i9), fun q hq => by cases cls9.symm.trans hq; exact k9⟩
    | 10 => ⟨(c10, i10), fun q hq => by cases cls10.symm.trans hq; exact k10⟩
    | 11 => ⟨(c11, i11), fun q hq => by cases cls11.symm.trans hq; exact k11⟩
    | n + 12 => ⟨(c0, i0), fun q hq => by
        have h1 := (List.getElem?_eq_some_iff.mp hq).1
        have h2 : cAll.length = 12 := rfl
        omega⟩
  obtain ⟨f, hf⟩ := Classical.axiomOfChoice h
  exact ⟨(fun c => (f c).1, fun c => (f c).2), fun c q hq => hf c q hq, fun k q hq => by simp at hq⟩
theorem lw_nest {args : Array Value} {s : State} (ht : ∀ w ∈ tables_1, w.before args s = true) : s_N s := by
  refine ⟨fun w hw => ?_, fun C hC => ?_⟩
  · obtain ⟨h1, h2⟩ := List.mem_filter.mp hw
    refine va_Nw.of ?_ (ht w h1)
    cases w <;> first | rfl | (simp [s_nest] at h2)
  · have h3 : ∀ C ∈ aAll, Cond.arrayOver (.object C) ∈ tables_1 := by
      intro C hC
      simp only [aAll, List.mem_cons, List.not_mem_nil, or_false] at hC
      rcases hC with rfl | rfl | rfl
      · exact of_decide_eq_true (by decide +kernel)
      · exact of_decide_eq_true (by decide +kernel)
      · exact of_decide_eq_true (by decide +kernel)
    exact va_AO.of (ht _ (h3 C hC))
theorem lw_eT {args : Array Value} {s : State} (ht : ∀ w ∈ tables_1, w.before args s = true) : e_T s := fun w hw => by
  obtain ⟨h1, h2⟩ := List.mem_filter.mp hw
  refine va_Nw.of ?_ (ht w h1)
  cases w <;> first | rfl | (simp [s_thr] at h2)
theorem lw_eZ {args : Array Value} {s : State} (ht : ∀ w ∈ tables_1, w.before args s = true) (hg : (Jvm.Cond.and given_1 narrow_1).before args s = true) : e_Z s := by
  have hs := flat_of_before _ hg
  refine e_Z.of (args := args) (fun w hw => ?_)
  simp only [zAll, List.mem_cons, List.not_mem_nil, or_false] at hw
  rcases hw with rfl | rfl | rfl | rfl
  · exact ht _ (of_decide_eq_true (by decide +kernel))
  · exact ht _ (of_decide_eq_true (by decide +kernel))
  · exact hs _ (by decide +kernel)
  · exact hs _ (by decide +kernel)
theorem lw_eN {args : Array Value} {s : State} (hg : (Jvm.Cond.and given_1 narrow_1).before args s = true) : e_N s := by
  have hs := flat_of_before _ hg
  intro q hq
  simp only [ncAll, List.mem_cons, List.not_mem_nil, or_false] at hq
  rcases hq with rfl | rfl | rfl | rfl
  · exact va_Nc.of (hs _ (by decide +kernel))
  · exact va_Nc.of (hs _ (by decide +kernel))
  · exact va_Nc.of (hs _ (by decide +kernel))
  · exact va_Nc.of (hs _ (by decide +kernel))
set_option maxRecDepth 100000 in
theorem lw_startw {p : Program} {e : Env} {s : State} {m : MethodId} {below : List Frame} {meth : Method} {c : Code} (l : Launch) (hl : l.stackTraces = false) {b L : Nat} {xs : Nat → Int32} (hL : L ≤ 2560) (C0 : lw_At p s m meth c b L xs) : W p l e room_1 s m #[Value.ref b] below meth c s.heap [] 0 0 (lw_Z below #[Value.ref b] s) (entryFrame m ([Value.ref b] : List Value).toArray 8) := by
  obtain ⟨hx, hb, hr, hml, hown, hts, hX, hbl, hlk, hgv⟩ := C0
  have hw : ∀ w ∈ wAll, w.before #[Value.ref b] s = true := fun w h => hts w (List.mem_filter.mp h).1
  have ht : ∀ w ∈ tables_1, w.before #[Value.ref b] s = true := fun w h => hts w (List.mem_append_right _ h)
  obtain ⟨D, hK⟩ := lw_known hw
  have hN := lw_nest ht
  have hXX : e_X s := ⟨lw_eT ht, lw_eZ ht hgv, lw_eN hgv⟩
  refine W.room (R' := rOf 840 601024 7293034) (by decide) (by decide) (by decide) (by decide) ?_
  rw [lg_entry_eq]
  have hQ : ∀ t, MQ below (s_Q D (fun _ => none) (s.heap.size : Int) (fun v _ _ _ => v = some (vi 1))) #[Value.ref b] s 601024 7293034 (s_fr (fun _ => none) (s.heap.size : Int)) t → lw_Z below #[Value.ref b] s t := fun t h => by
    obtain ⟨o, b1, b2, ⟨v, sh', M', ho, hPo, -⟩, L', b4, b5⟩ := h
    have h1 : o = .returned (some (.int 1)) := by rw [ho, hPo]; rfl
    refine ⟨o, b1, b2, h1, lw_frame0 b4 (fun q hq => ?_)⟩
    rcases b5 q hq with h | h
    · cases h
    · omega
  have hgo := lg_whole (D := D) (nm := meth.name) (d := 840) (mc := 601024) (ms := 7293034) (sh0 := fun _ => none) (sz0 := (s.heap.size : Int)) (Po := fun v _ _ _ => v = some (vi 1)) (g := (p, l, e, rOf 840 601024 7293034, s, m, #[Value.ref b], below, meth, c, D, s_fr (fun _ => none) (s.heap.size : Int), lw_Z below #[Value.ref b] s, 8)) hl
    ⟨rfl, rfl, rfl, rfl, rfl, hQ, hx, hb, hown, hw, hK, hN, hml, hr, hlk, rfl, rfl⟩ (hh := y_hh c)
    ⟨rfl, hXX, fun q cell h1 h2 h3 => by
      rcases h3 with h | h
      · cases h
      · have := (Array.getElem?_eq_some_iff.mp h1).1
        omega⟩ (by decide) (by decide) (by decide) (b := b) (N := L) (xs := xs)
    ⟨hX, hbl, fun h3 => by
      rcases h3 with h | h
      · cases h
      · omega⟩ hL (fun _ _ _ => rfl) (o := (s.heap.size : Int)) (by omega) (sh := fun _ => none) (M := fun _ _ => 0)
  exact hgo s.heap [] _ (fun a k h => by cases h) (fun a h => by cases h) rfl va_S.rf (lv_entry [Value.ref b] (Nat.le_of_ble_eq_true rfl))
