/-! Rows of Go that touch the heap; calls. -/
/-- a class of the worlds: its place, fields, their types -/
def cOK (ci : Nat) (C : String) (T : u_T) (N : Nat) (ty0 : Nat → FieldType) : Prop := cAll[ci]? = some (C, T, N) ∧ (∀ w ∈ u_ws C T N, w ∈ wAll) ∧ (∀ k, k < N → parseFieldDescriptor (T k).2.2.1 = some (ty0 k)) ∧ (∀ a, a < N → ∀ b, b < N → a ≠ b → (T a).2.1 ≠ (T b).2.1)
/-- a field of one, as a place of the pool of own names it -/
def fOK (own : String) (ix ci j : Nat) (fin : Bool) (ty : FieldType) : Prop := ∃ (C : String) (T : u_T) (N : Nat) (ty0 : Nat → FieldType), cOK ci C T N ty0 ∧ j < N ∧ (T j).2.2.2 = fin ∧ parseFieldDescriptor (T j).2.2.1 = some ty ∧ (Cond.fieldLink own ix (T j).1 (T j).2.1 (T j).2.2.1 ∈ wAll ∨ ∃ host : String, Cond.fieldLinkNest own ix (T j).1 (T j).2.1 (T j).2.2.1 host ∈ nAll)
theorem va_one {D : va_G} {cl : List vw_C} {q : Nat × va_E} {H : Heap} (h : va_at D cl q H) : va_P D cl [q] H := fun k x hk => by
  have hz : k < 1 := (List.getElem?_eq_some_iff.mp hk).1
  rw [show k = 0 by omega] at hk
  cases hk
  exact h
theorem s_vref {C : String} {x b : Int} (h : x = b) (h0 : 0 ≤ b) : s_v (.object C) x = vr b := by
  subst h
  show s_q x = _
  exact if_neg (by omega)
theorem s_varr {t : FieldType} {x b : Int} (h : x = b) (h0 : 0 ≤ b) : s_v (.array t) x = vr b := by
  subst h
  show s_q x = _
  exact if_neg (by omega)
theorem s_vnull {C : String} {x : Int} (h : x < 0) : s_v (.object C) x = .null := by
  show s_q x = _
  exact if_pos h
section GoHeap
variable {l : Launch} {D : va_G} {cc : ByteArray} {own nm : String} {nL : Nat} {ret : Option FieldType} {d mc ms : Nat} {sh0 : s_S} {sz0 : Int} {Po : s_Po} {g : g_X} {k n : Nat} {sh : s_S} {M : s_M} {sz : Int} {pc : Nat} {lv lv' : List (Nat × Value)} {st r : List Value}
theorem go_get (X : Cx l D cc own nm nL ret d mc ms sh0 sz0 Po g) {ix ci j : Nat} {fin : Bool} {ty : FieldType} {ts : List FieldType} {a : Int} {v : Value} (hf : fOK own ix ci j fin ty) (hk : sh a = some (.inl (ci, ts))) (ht : ts[j]? = some ty) (hd : decode cc pc = .ok (.getfield ix, 3)) (hv : s_v ty (M a j) = v) (kk : Go g k n sh M sz (pc + 3) lv (v :: r)) : Go g k n sh M sz pc lv (vr a :: r) := by
  obtain ⟨p, l', e, R, s, m, args, below, meth, c, D', A, Q, nL'⟩ := g
  obtain ⟨rfl, rfl, rfl, rfl, rfl, hQ, hx, hb, hown, hts, hK, hN, hml, hr, hlk, hnm, hsz0⟩ := X
  intro H locs ls hR hA hz hS hl
  obtain ⟨C, T, N, ty0, ⟨hc, hin, -, -⟩, hj, -, -, hw⟩ := hf
  obtain ⟨h0, hat⟩ := hR a _ hk
  have hv2 : (s_fs ts (s_row M a))[j]? = some v := by
    rw [← hv]
    exact s_fs_get ts (s_row M a) j ty ht
  rcases hw with hw | ⟨host, hw⟩
  · exact va_get hx hb hts hin hown hK (va_one (q := (a.toNat, .inr (ci, s_fs ts (s_row M a)))) hat) 0 rfl hc j hj (hts _ hw) (fun _ h => h) hv2 hd (kk H locs ls hR hA hz hS hl)
  · exact va_getN hx hb hts hin hown hK (va_one (q := (a.toNat, .inr (ci, s_fs ts (s_row M a)))) hat) 0 rfl hc j hj (va_Nw.use rfl (hN.1 _ hw)) (fun _ h => h) hv2 hd (kk H locs ls hR hA hz hS hl)
theorem go_put (X : Cx l D cc own nm nL ret d mc ms sh0 sz0 Po g) {ix ci j : Nat} {ty : FieldType} {ts : List FieldType} {a x : Int} {v : Value} (hf : fOK own ix ci j false ty) (hk : sh a = some (.inl (ci, ts))) (ht : ts[j]? = some ty) (hd : decode cc pc = .ok (.putfield ix, 3)) (hv : s_v ty x = v) (hn : narrow ty v = v) (hfit : fits ty v = true) (kk : Go g k n sh (m_s M a j x) sz (pc + 3) lv r) : Go g k n sh M sz pc lv (v :: vr a :: r) := by
  obtain ⟨p, l', e, R, s, m, args, below, meth, c, D', A, Q, nL'⟩ := g
  obtain ⟨rfl, rfl, rfl, rfl, rfl, hQ, hx, hb, hown, hts, hK, hN, hml, hr, hlk, hnm, hsz0⟩ := X
  intro H locs ls hR hA hz hS hl
  obtain ⟨C, T, N, ty0, ⟨hc, hin, hty, hnmd⟩, hj, hfin, hdt, hw⟩ := hf
  obtain ⟨h0, hat⟩ := hR a _ hk
  have hap := va_apart (own := own) hts hin ty0 hty hnmd hK hc
  obtain ⟨r0, h1, cell, q1, q2, q3, q4⟩ := hat
  have hr0 : r0 = (C, T, N) := Option.some.inj (h1.symm.trans hc)
  subst hr0
  obtain ⟨hSl, hfc, kC, hkC, hkind⟩ := hK.1 ci _ hc
  obtain ⟨cf, kf, fi, f, hi, hsl⟩ := hSl j hj
  have hlay := hts _ (hin _ (u_in_lay hj))
  unfold u_lay at hlay
  rw [if_neg (by rw [hfin]; decide)] at hlay
  have hst := (u_facts hfc hkC (u_lays hts hin hj) hi).1
  have h6 := u_store hfc hkC hkind hlay hi hdt hn hfit
  have hend : ∀ H' : Heap, H'[a.toNat]? = some (cell.setSlot (D'.2 ci j) v) → H'.size = H.size → (∀ q : Nat, q ≠ a.toNat → H'[q]? = H[q]?) → ∀ i0 : Nat, W p l' e (rOf d mc ms) s m args below meth c H' (locs ++ [⟨a.toNat, i0⟩]) k n Q (F0 m (pc + 3) ls r) := by
    intro H' e1 e2 e3 i0
    refine kk H' _ ls (hR.put (M' := m_s M a j x) hk ?_ (fun b hb' => m_s_a hb') e3) hA (by rw [e2]; exact hz) (hS.put e2 e3 (hA a (by rw [hk]; rfl))) hl
    refine ⟨_, hc, t_OB.to (V := updV (vp_V (s_fs ts (s_row M a))) j v) ⟨_, e1, q2, q3, t_set q4 hap hj v⟩ (fun i _ => ?_)⟩
    have e4 : s_fs ts (s_row (m_s M a j x) a) = (s_fs ts (s_row M a)).set j v := by
      rw [← hv]
      have e5 : x = s_row (m_s M a j x) a j := by
        show x = m_s M a j x a j
        rw [m_s_s]
      have e6 := s_fs_set ts (s_row M a) (s_row (m_s M a j x) a) j ty ht (fun i hi2 => if_neg (by omega))
      rw [← e5] at e6
      exact e6.symm
    rw [e4]
    exact vp_updV_set (by rw [s_fs_len]; exact (List.getElem?_eq_some_iff.mp ht).1) v i
  rcases hw with hw | ⟨host, hw⟩
  · refine W.putK hx hb (f := f) ⟨hown, hts _ hw, ⟨_, _, _, hi⟩, hst⟩ (by rw [q2]; exact h6) q1 q3 (by rw [hsl]; exact k2_hasslot (q4 j hj)) rfl rfl hd fun H' e1 e2 e3 => ?_
    rw [hsl] at e1
    exact hend H' e1 e2 e3 _
  · refine va_WputK hx hb (f := f) hown (va_Nw.use rfl (hN.1 _ hw)) hi hst (by rw [q2]; exact h6) q1 q3 (by rw [hsl]; exact k2_hasslot (q4 j hj)) rfl rfl hd fun H' e1 e2 e3 => ?_
    rw [hsl] at e1
    exact hend H' e1 e2 e3 _
theorem go_putF (X : Cx l D cc own nm nL ret d mc ms sh0 sz0 Po g) {ix ci j : Nat} {ty : FieldType} {ts : List FieldType} {a x : Int} {v : Value} (hf : fOK own ix ci j true ty) (hini : nm = "<init>") (hk : sh a = some (.inl (ci, ts))) (ht : ts[j]? = some ty) (hd : decode cc pc = .ok (.putfield ix, 3)) (hv : s_v ty x = v) (hn : narrow ty v = v) (hfit : fits ty v = true) (hwl : ∃ (C : String) (T : u_T) (N : Nat), cAll[ci]? = some (C, T, N) ∧ (T j).1 = own ∧ Cond.fieldLink own ix (T j).1 (T j).2.1 (T j).2.2.1 ∈ wAll) (kk : Go g k n sh (m_s M a j x) sz (pc + 3) lv r) : Go g k n sh M sz pc lv (v :: vr a :: r) := by
  obtain ⟨p, l', e, R, s, m, args, below, meth, c, D', A, Q, nL'⟩ := g
  obtain ⟨rfl, rfl, rfl, rfl, rfl, hQ, hx, hb, hown, hts, hK, hN, hml, hr, hlk, hnm, hsz0⟩ := X
  intro H locs ls hR hA hz hS hl
  obtain ⟨C, T, N, ty0, ⟨hc, hin, hty, hnmd⟩, hj, hfin, hdt, hw⟩ := hf
  obtain ⟨h0, hat⟩ := hR a _ hk
  have hap := va_apart (own := own) hts hin ty0 hty hnmd hK hc
  obtain ⟨r0, h1, cell, q1, q2, q3, q4⟩ := hat
  have hr0 : r0 = (C, T, N) := Option.some.inj (h1.symm.trans hc)
  subst hr0
  obtain ⟨hSl, hfc, kC, hkC, hkind⟩ := hK.1 ci _ hc
  obtain ⟨cf, kf, fi, f, hi, hsl⟩ := hSl j hj
  have hlay := hts _ (hin _ (u_in_lay hj))
  unfold u_lay at hlay
  rw [if_pos hfin] at hlay
  obtain ⟨C1, T1, N1, hc1, hdecl, hw1⟩ := hwl
  cases hc.symm.trans hc1
  have hst := (u_facts hfc hkC (u_lays hts hin hj) hi).1
  have hcf : m.cls = cf := by
    obtain ⟨_, _, c', _, _, _, -, -, hf', -, -, -, hown2, -⟩ := Cond.laysFinal_spec hlay
    have e1 : c' = cf := by have := hi.symm.trans hf'; simp at this; exact this.1.symm
    rw [hdecl] at hown2
    rw [← e1]; exact Option.some.inj (hown.symm.trans hown2)
  have h6 := u_fits hfc hkC hkind (Or.inr hlay) hi hdt hn hfit
  have hend : ∀ H' : Heap, H'[a.toNat]? = some (cell.setSlot (D'.2 ci j) v) → H'.size = H.size → (∀ q : Nat, q ≠ a.toNat → H'[q]? = H[q]?) → ∀ i0 : Nat, W p l' e (rOf d mc ms) s m args below meth c H' (locs ++ [⟨a.toNat, i0⟩]) k n Q (F0 m (pc + 3) ls r) := by
    intro H' e1 e2 e3 i0
    refine kk H' _ ls (hR.put (M' := m_s M a j x) hk ?_ (fun b hb' => m_s_a hb') e3) hA (by rw [e2]; exact hz) (hS.put e2 e3 (hA a (by rw [hk]; rfl))) hl
    refine ⟨_, hc, t_OB.to (V := updV (vp_V (s_fs ts (s_row M a))) j v) ⟨_, e1, q2, q3, t_set q4 hap hj v⟩ (fun i _ => ?_)⟩
    have e4 : s_fs ts (s_row (m_s M a j x) a) = (s_fs ts (s_row M a)).set j v := by
      rw [← hv]
      have e5 : x = s_row (m_s M a j x) a j := by
        show x = m_s M a j x a j
        rw [m_s_s]
      have e6 := s_fs_set ts (s_row M a) (s_row (m_s M a j x) a) j ty ht (fun i hi2 => if_neg (by omega))
      rw [← e5] at e6
      exact e6.symm
    rw [e4]
    exact vp_updV_set (by rw [s_fs_len]; exact (List.getElem?_eq_some_iff.mp ht).1) v i
  refine W.putFinK hx hb hown (hts _ hw1) hi hst hcf (hnm.trans hini) (by rw [q2]; exact h6) q1 q3 (by rw [hsl]; exact k2_hasslot (q4 j hj)) rfl rfl hd fun H' e1 e2 e3 => ?_
  rw [hsl] at e1
  exact hend H' e1 e2 e3 _
theorem go_iald (X : Cx l D cc own nm nL ret d mc ms sh0 sz0 Po g) {a i : Int} {N : Nat} (hk : sh a = some (.inr (.int, N))) (hN1 : N < 2147483648) (hi : 0 ≤ i ∧ i < N) (hd : decode cc pc = .ok (.iaload, 1)) (kk : Go g k n sh M sz (pc + 1) lv (vi (M a i) :: r)) : Go g k n sh M sz pc lv (vi i :: vr a :: r) := by
  obtain ⟨p, l', e, R, s, m, args, below, meth, c, D', A, Q, nL'⟩ := g
  obtain ⟨rfl, rfl, rfl, rfl, rfl, hQ, hx, hb, hown, hts, hK, hN, hml, hr, hlk, hnm, hsz0⟩ := X
  intro H locs ls hR hA hz hS hl
  obtain ⟨h0, cA, ⟨hAr, hRA⟩, hcl⟩ := hR a _ hk
  have hin : vp_in (Int32.ofInt i) N := n_in hi.1 hi.2 hN1
  have hcl0 : (Int32.ofInt i).toNatClampNeg = i.toNat := n_clamp (by omega)
  have hlt : (Int32.ofInt i).toNatClampNeg < N := by rw [hcl0]; omega
  have hii : ((i.toNat : Nat) : Int) = i := Int.toNat_of_nonneg hi.1
  refine W.iald (v := vi (M a i)) hx hb hcl (hAr N (fun j => .int (Int32.ofInt (M a (j : Int))))) (fun q => by cases q) (by show ¬ (_ < 0 ∨ (arrV _ _ _).slots.size ≤ _); rw [arrV_size]; exact hin) ?_ rfl rfl hd (kk H locs ls hR hA hz hS hl)
  show (arrV cA N (fun j => .int (Int32.ofInt (M a (j : Int))))).slots[_]? = _
  rw [arrV_read _ _ hlt, hcl0]
  show some (Value.int (Int32.ofInt (M a ((i.toNat : Nat) : Int)))) = _
  rw [hii]
theorem go_cald (X : Cx l D cc own nm nL ret d mc ms sh0 sz0 Po g) {a i : Int} {N : Nat} (hk : sh a = some (.inr (.char, N))) (hN1 : N < 2147483648) (hi : 0 ≤ i ∧ i < N) (hd : decode cc pc = .ok (.caload, 1)) (kk : Go g k n sh M sz (pc + 1) lv (vi (M a i) :: r)) : Go g k n sh M sz pc lv (vi i :: vr a :: r) := by
  obtain ⟨p, l', e, R, s, m, args, below, meth, c, D', A, Q, nL'⟩ := g
  obtain ⟨rfl, rfl, rfl, rfl, rfl, hQ, hx, hb, hown, hts, hK, hN, hml, hr, hlk, hnm, hsz0⟩ := X
  intro H locs ls hR hA hz hS hl
  obtain ⟨h0, cA, ⟨hAr, hRA⟩, hcl⟩ := hR a _ hk
  have hin : vp_in (Int32.ofInt i) N := n_in hi.1 hi.2 hN1
  have hcl0 : (Int32.ofInt i).toNatClampNeg = i.toNat := n_clamp (by omega)
  have hlt : (Int32.ofInt i).toNatClampNeg < N := by rw [hcl0]; omega
  have hii : ((i.toNat : Nat) : Int) = i := Int.toNat_of_nonneg hi.1
  refine W.cald (v := vi (M a i)) hx hb hcl (hAr N (fun j => .int (Int32.ofInt (M a (j : Int))))) (fun q => by cases q) (by show ¬ (_ < 0 ∨ (arrV _ _ _).slots.size ≤ _); rw [arrV_size]; exact hin) ?_ rfl rfl hd (kk H locs ls hR hA hz hS hl)
  show (arrV cA N (fun j => .int (Int32.ofInt (M a (j : Int))))).slots[_]? = _
  rw [arrV_read _ _ hlt, hcl0]
  show some (Value.int (Int32.ofInt (M a ((i.toNat : Nat) : Int)))) = _
  rw [hii]
theorem go_zald (X : Cx l D cc own nm nL ret d mc ms sh0 sz0 Po g) {a i : Int} {N : Nat} (hk : sh a = some (.inr (.boolean, N))) (hN1 : N < 2147483648) (hi : 0 ≤ i ∧ i < N) (hd : decode cc pc = .ok (.baload, 1)) (kk : Go g k n sh M sz (pc + 1) lv (vi (M a i) :: r)) : Go g k n sh M sz pc lv (vi i :: vr a :: r) := by
  obtain ⟨p, l', e, R, s, m, args, below, meth, c, D', A, Q, nL'⟩ := g
  obtain ⟨rfl, rfl, rfl, rfl, rfl, hQ, hx, hb, hown, hts, hK, hN, hml, hr, hlk, hnm, hsz0⟩ := X
  intro H locs ls hR hA hz hS hl
  obtain ⟨h0, cA, ⟨hAr, hRA⟩, hcl⟩ := hR a _ hk
  have hin : vp_in (Int32.ofInt i) N := n_in hi.1 hi.2 hN1
  have hcl0 : (Int32.ofInt i).toNatClampNeg = i.toNat := n_clamp (by omega)
  have hlt : (Int32.ofInt i).toNatClampNeg < N := by rw [hcl0]; omega
  have hii : ((i.toNat : Nat) : Int) = i := Int.toNat_of_nonneg hi.1
  refine W.zald (v := vi (M a i)) hx hb hcl (hAr N (fun j => .int (Int32.ofInt (M a (j : Int))))) (fun q => by cases q) (by show ¬ (_ < 0 ∨ (arrV _ _ _).slots.size ≤ _); rw [arrV_size]; exact hin) ?_ rfl rfl hd (kk H locs ls hR hA hz hS hl)
  show (arrV cA N (fun j => .int (Int32.ofInt (M a (j : Int))))).slots[_]? = _
  rw [arrV_read _ _ hlt, hcl0]
  show some (Value.int (Int32.ofInt (M a ((i.toNat : Nat) : Int)))) = _
  rw [hii]
theorem go_lald (X : Cx l D cc own nm nL ret d mc ms sh0 sz0 Po g) {a i : Int} {N : Nat} (hk : sh a = some (.inr (.long, N))) (hN1 : N < 2147483648) (hi : 0 ≤ i ∧ i < N) (hd : decode cc pc = .ok (.laload, 1)) (kk : Go g k n sh M sz (pc + 1) lv (vl (M a i) :: r)) : Go g k n sh M sz pc lv (vi i :: vr a :: r) := by
  obtain ⟨p, l', e, R, s, m, args, below, meth, c, D', A, Q, nL'⟩ := g
  obtain ⟨rfl, rfl, rfl, rfl, rfl, hQ, hx, hb, hown, hts, hK, hN, hml, hr, hlk, hnm, hsz0⟩ := X
  intro H locs ls hR hA hz hS hl
  obtain ⟨h0, cA, ⟨hAr, hRA⟩, hcl⟩ := hR a _ hk
  have hin : vp_in (Int32.ofInt i) N := n_in hi.1 hi.2 hN1
  have hcl0 : (Int32.ofInt i).toNatClampNeg = i.toNat := n_clamp (by omega)
  have hlt : (Int32.ofInt i).toNatClampNeg < N := by rw [hcl0]; omega
  have hii : ((i.toNat : Nat) : Int) = i := Int.toNat_of_nonneg hi.1
  refine W.lald (v := vl (M a i)) hx hb hcl (hAr N (fun j => .long (Int64.ofInt (M a (j : Int))))) (fun q => by cases q) (by show ¬ (_ < 0 ∨ (arrV _ _ _).slots.size ≤ _); rw [arrV_size]; exact hin) ?_ rfl rfl hd (kk H locs ls hR hA hz hS hl)
  show (arrV cA N (fun j => .long (Int64.ofInt (M a (j : Int))))).slots[_]? = _
  rw [arrV_read _ _ hlt, hcl0]
  show some (Value.long (Int64.ofInt (M a ((i.toNat : Nat) : Int)))) = _
  rw [hii]
theorem go_aald (X : Cx l D cc own nm nL ret d mc ms sh0 sz0 Po g) {a i : Int} {N : Nat} {C : String} (hk : sh a = some (.inr (.object C, N))) (hN1 : N < 2147483648) (hi : 0 ≤ i ∧ i < N) (hd : decode cc pc = .ok (.aaload, 1)) (kk : Go g k n sh M sz (pc + 1) lv (s_q (M a i) :: r)) : Go g k n sh M sz pc lv (vi i :: vr a :: r) := by
  obtain ⟨p, l', e, R, s, m, args, below, meth, c, D', A, Q, nL'⟩ := g
  obtain ⟨rfl, rfl, rfl, rfl, rfl, hQ, hx, hb, hown, hts, hK, hN, hml, hr, hlk, hnm, hsz0⟩ := X
  intro H locs ls hR hA hz hS hl
  obtain ⟨h0, cA, ⟨hAr, hRA⟩, hcl⟩ := hR a _ hk
  have hin : vp_in (Int32.ofInt i) N := n_in hi.1 hi.2 hN1
  have hcl0 : (Int32.ofInt i).toNatClampNeg = i.toNat := n_clamp (by omega)
  have hlt : (Int32.ofInt i).toNatClampNeg < N := by rw [hcl0]; omega
  have hii : ((i.toNat : Nat) : Int) = i := Int.toNat_of_nonneg hi.1
  refine W.aald (v := s_q (M a i)) hx hb hcl (hAr N (fun j => va_rf (if M a (j : Int) < 0 then none else some (M a (j : Int)).toNat))) rfl (fun q => by cases q) (by show ¬ (_ < 0 ∨ (arrV _ _ _).slots.size ≤ _); rw [arrV_size]; exact hin) ?_ rfl rfl hd (kk H locs ls hR hA hz hS hl)
  show (arrV cA N (fun j => va_rf (if M a (j : Int) < 0 then none else some (M a (j : Int)).toNat))).slots[_]? = _
  rw [arrV_read _ _ hlt, hcl0]
  show some (va_rf (if M a ((i.toNat : Nat) : Int) < 0 then none else some (M a ((i.toNat : Nat) : Int)).toNat)) = _
  rw [hii]
  unfold s_q
  by_cases hq : M a i < 0
  · rw [if_pos hq, if_pos hq]; rfl
  · rw [if_neg hq, if_neg hq]; rfl
theorem go_iast (X : Cx l D cc own nm nL ret d mc ms sh0 sz0 Po g) {a i x : Int} {N : Nat} (hk : sh a = some (.inr (.int, N))) (hN1 : N < 2147483648) (hi : 0 ≤ i ∧ i < N) (hd : decode cc pc = .ok (.iastore, 1)) (kk : Go g k n sh (m_s M a i x) sz (pc + 1) lv r) : Go g k n sh M sz pc lv (vi x :: vi i :: vr a :: r) := by
  obtain ⟨p, l', e, R, s, m, args, below, meth, c, D', A, Q, nL'⟩ := g
  obtain ⟨rfl, rfl, rfl, rfl, rfl, hQ, hx, hb, hown, hts, hK, hN, hml, hr, hlk, hnm, hsz0⟩ := X
  intro H locs ls hR hA hz hS hl
  obtain ⟨h0, cA, ⟨hAr, hRA⟩, hcl⟩ := hR a _ hk
  have hin : vp_in (Int32.ofInt i) N := n_in hi.1 hi.2 hN1
  have hcl0 : (Int32.ofInt i).toNatClampNeg = i.toNat := n_clamp (by omega)
  have hlt : (Int32.ofInt i).toNatClampNeg < N := by rw [hcl0]; omega
  have hii : ((i.toNat : Nat) : Int) = i := Int.toNat_of_nonneg hi.1
  refine W.iast hx hb hcl (hAr N (fun j => .int (Int32.ofInt (M a (j : Int))))) (fun q => by cases q) (by show ¬ (_ < 0 ∨ (arrV _ _ _).slots.size ≤ _); rw [arrV_size]; exact hin) rfl rfl hd fun H1 e1 z oq => ?_
  refine kk H1 _ ls (hR.put (M' := m_s M a i x) hk ⟨cA, ⟨hAr, hRA⟩, ?_⟩ (fun b hb' => m_s_a hb') oq) hA (by rw [z]; exact hz) (hS.put z oq (hA a (by rw [hk]; rfl))) hl
  rw [e1]
  show some ((arrV cA N (fun j => .int (Int32.ofInt (M a (j : Int))))).setSlot _ (vi x)) = some (arrV cA N (fun j => .int (Int32.ofInt (m_s M a i x a (j : Int)))))
  rw [arrV_store, hcl0]
  congr 2
  funext q
  by_cases hq : q = i.toNat
  · subst hq
    simp only [updV, if_true]
    rw [hii, m_s_s]
  · simp only [updV, if_neg hq]
    rw [m_s_n (fun h => hq (by omega))]
theorem go_cast (X : Cx l D cc own nm nL ret d mc ms sh0 sz0 Po g) {a i x : Int} {N : Nat} (hk : sh a = some (.inr (.char, N))) (hN1 : N < 2147483648) (hi : 0 ≤ i ∧ i < N) (hnar : narrow .char (vi x) = vi x) (hd : decode cc pc = .ok (.castore, 1)) (kk : Go g k n sh (m_s M a i x) sz (pc + 1) lv r) : Go g k n sh M sz pc lv (vi x :: vi i :: vr a :: r) := by
  obtain ⟨p, l', e, R, s, m, args, below, meth, c, D', A, Q, nL'⟩ := g
  obtain ⟨rfl, rfl, rfl, rfl, rfl, hQ, hx, hb, hown, hts, hK, hN, hml, hr, hlk, hnm, hsz0⟩ := X
  intro H locs ls hR hA hz hS hl
  obtain ⟨h0, cA, ⟨hAr, hRA⟩, hcl⟩ := hR a _ hk
  have hin : vp_in (Int32.ofInt i) N := n_in hi.1 hi.2 hN1
  have hcl0 : (Int32.ofInt i).toNatClampNeg = i.toNat := n_clamp (by omega)
  have hlt : (Int32.ofInt i).toNatClampNeg < N := by rw [hcl0]; omega
  have hii : ((i.toNat : Nat) : Int) = i := Int.toNat_of_nonneg hi.1
  refine W.cast hx hb hcl (hAr N (fun j => .int (Int32.ofInt (M a (j : Int))))) (fun q => by cases q) (by show ¬ (_ < 0 ∨ (arrV _ _ _).slots.size ≤ _); rw [arrV_size]; exact hin) rfl rfl hd fun H1 e1 z oq => ?_
  refine kk H1 _ ls (hR.put (M' := m_s M a i x) hk ⟨cA, ⟨hAr, hRA⟩, ?_⟩ (fun b hb' => m_s_a hb') oq) hA (by rw [z]; exact hz) (hS.put z oq (hA a (by rw [hk]; rfl))) hl
  rw [e1, hnar]
  show some ((arrV cA N (fun j => .int (Int32.ofInt (M a (j : Int))))).setSlot _ (vi x)) = some (arrV cA N (fun j => .int (Int32.ofInt (m_s M a i x a (j : Int)))))
  rw [arrV_store, hcl0]
  congr 2
  funext q
  by_cases hq : q = i.toNat
  · subst hq
    simp only [updV, if_true]
    rw [hii, m_s_s]
  · simp only [updV, if_neg hq]
    rw [m_s_n (fun h => hq (by omega))]
theorem go_zast (X : Cx l D cc own nm nL ret d mc ms sh0 sz0 Po g) {a i x : Int} {N : Nat} (hk : sh a = some (.inr (.boolean, N))) (hN1 : N < 2147483648) (hi : 0 ≤ i ∧ i < N) (hnar : narrow .boolean (vi x) = vi x) (hd : decode cc pc = .ok (.bastore, 1)) (kk : Go g k n sh (m_s M a i x) sz (pc + 1) lv r) : Go g k n sh M sz pc lv (vi x :: vi i :: vr a :: r) := by
  obtain ⟨p, l', e, R, s, m, args, below, meth, c, D', A, Q, nL'⟩ := g
  obtain ⟨rfl, rfl, rfl, rfl, rfl, hQ, hx, hb, hown, hts, hK, hN, hml, hr, hlk, hnm, hsz0⟩ := X
  intro H locs ls hR hA hz hS hl
  obtain ⟨h0, cA, ⟨hAr, hRA⟩, hcl⟩ := hR a _ hk
  have hin : vp_in (Int32.ofInt i) N := n_in hi.1 hi.2 hN1
  have hcl0 : (Int32.ofInt i).toNatClampNeg = i.toNat := n_clamp (by omega)
  have hlt : (Int32.ofInt i).toNatClampNeg < N := by rw [hcl0]; omega
  have hii : ((i.toNat : Nat) : Int) = i := Int.toNat_of_nonneg hi.1
  refine W.zast hx hb hcl (hAr N (fun j => .int (Int32.ofInt (M a (j : Int))))) (fun q => by cases q) (by show ¬ (_ < 0 ∨ (arrV _ _ _).slots.size ≤ _); rw [arrV_size]; exact hin) rfl rfl hd fun H1 e1 z oq => ?_
  refine kk H1 _ ls (hR.put (M' := m_s M a i x) hk ⟨cA, ⟨hAr, hRA⟩, ?_⟩ (fun b hb' => m_s_a hb') oq) hA (by rw [z]; exact hz) (hS.put z oq (hA a (by rw [hk]; rfl))) hl
  rw [e1, hnar]
  show some ((arrV cA N (fun j => .int (Int32.ofInt (M a (j : Int))))).setSlot _ (vi x)) = some (arrV cA N (fun j => .int (Int32.ofInt (m_s M a i x a (j : Int)))))
  rw [arrV_store, hcl0]
  congr 2
  funext q
  by_cases hq : q = i.toNat
  · subst hq
    simp only [updV, if_true]
    rw [hii, m_s_s]
  · simp only [updV, if_neg hq]
    rw [m_s_n (fun h => hq (by omega))]
theorem go_last (X : Cx l D cc own nm nL ret d mc ms sh0 sz0 Po g) {a i x : Int} {N : Nat} (hk : sh a = some (.inr (.long, N))) (hN1 : N < 2147483648) (hi : 0 ≤ i ∧ i < N) (hd : decode cc pc = .ok (.lastore, 1)) (kk : Go g k n sh (m_s M a i x) sz (pc + 1) lv r) : Go g k n sh M sz pc lv (vl x :: vi i :: vr a :: r) := by
  obtain ⟨p, l', e, R, s, m, args, below, meth, c, D', A, Q, nL'⟩ := g
  obtain ⟨rfl, rfl, rfl, rfl, rfl, hQ, hx, hb, hown, hts, hK, hN, hml, hr, hlk, hnm, hsz0⟩ := X
  intro H locs ls hR hA hz hS hl
  obtain ⟨h0, cA, ⟨hAr, hRA⟩, hcl⟩ := hR a _ hk
  have hin : vp_in (Int32.ofInt i) N := n_in hi.1 hi.2 hN1
  have hcl0 : (Int32.ofInt i).toNatClampNeg = i.toNat := n_clamp (by omega)
  have hlt : (Int32.ofInt i).toNatClampNeg < N := by rw [hcl0]; omega
  have hii : ((i.toNat : Nat) : Int) = i := Int.toNat_of_nonneg hi.1
  refine W.last hx hb hcl (hAr N (fun j => .long (Int64.ofInt (M a (j : Int))))) (fun q => by cases q) (by show ¬ (_ < 0 ∨ (arrV _ _ _).slots.size ≤ _); rw [arrV_size]; exact hin) rfl rfl hd fun H1 e1 z oq => ?_
  refine kk H1 _ ls (hR.put (M' := m_s M a i x) hk ⟨cA, ⟨hAr, hRA⟩, ?_⟩ (fun b hb' => m_s_a hb') oq) hA (by rw [z]; exact hz) (hS.put z oq (hA a (by rw [hk]; rfl))) hl
  rw [e1]
  show some ((arrV cA N (fun j => .long (Int64.ofInt (M a (j : Int))))).setSlot _ (vl x)) = some (arrV cA N (fun j => .long (Int64.ofInt (m_s M a i x a (j : Int)))))
  rw [arrV_store, hcl0]
  congr 2
  funext q
  by_cases hq : q = i.toNat
  · subst hq
    simp only [updV, if_true]
    rw [hii, m_s_s]
  · simp only [updV, if_neg hq]
    rw [m_s_n (fun h => hq (by omega))]
theorem go_aast (X : Cx l D cc own nm nL ret d mc ms sh0 sz0 Po g) {a i x : Int} {N ci : Nat} {C : String} {T : u_T} {N2 : Nat} {ts : List FieldType} (hk : sh a = some (.inr (.object C, N))) (hN1 : N < 2147483648) (hi : 0 ≤ i ∧ i < N) (hc : cAll[ci]? = some (C, T, N2)) (hx1 : sh x = some (.inl (ci, ts))) (hd : decode cc pc = .ok (.aastore, 1)) (kk : Go g k n sh (m_s M a i x) sz (pc + 1) lv r) : Go g k n sh M sz pc lv (vr x :: vi i :: vr a :: r) := by
  obtain ⟨p, l', e, R, s, m, args, below, meth, c, D', A, Q, nL'⟩ := g
  obtain ⟨rfl, rfl, rfl, rfl, rfl, hQ, hx, hb, hown, hts, hK, hN, hml, hr, hlk, hnm, hsz0⟩ := X
  intro H locs ls hR hA hz hS hl
  obtain ⟨h0, cA, ⟨hAr, hRA⟩, hcl⟩ := hR a _ hk
  have hin : vp_in (Int32.ofInt i) N := n_in hi.1 hi.2 hN1
  have hcl0 : (Int32.ofInt i).toNatClampNeg = i.toNat := n_clamp (by omega)
  have hlt : (Int32.ofInt i).toNatClampNeg < N := by rw [hcl0]; omega
  have hii : ((i.toNat : Nat) : Int) = i := Int.toNat_of_nonneg hi.1
  obtain ⟨hx0, hatv⟩ := hR x _ hx1
  obtain ⟨r', hr', cellV, g1, g2, g3, -⟩ := hatv
  have hcls := (hK.1 ci _ hc).2
  have hRA2 := hRA
  obtain ⟨kA, comp, k1, k2, k3, -⟩ := hRA
  have hcomp : comp = D'.1 ci := Option.some.inj (k3.symm.trans hcls.1)
  subst hcomp
  have hcls2 := hcls
  obtain ⟨-, kC, hkC, -⟩ := hcls2
  refine W.aast hx hb hcl (fun q h => by cases h) (fun h => by cases h) k1 k2 rfl hkC ⟨fun q => hin (Or.inl q), by show _ < (arrV _ _ _).slots.size; rw [arrV_size]; exact hlt⟩ g1 (fun q h => by rw [g3] at h; cases h) (by rw [g2]; exact hkC) (by rw [g2]; exact va_assign hcls) rfl rfl hd fun H1 e1 z oq => ?_
  refine kk H1 _ ls (hR.put (M' := m_s M a i x) hk ⟨cA, ⟨hAr, hRA2⟩, ?_⟩ (fun b hb' => m_s_a hb') oq) hA (by rw [z]; exact hz) (hS.put z oq (hA a (by rw [hk]; rfl))) hl
  rw [e1]
  show some ((arrV cA N (fun j => va_rf (if M a (j : Int) < 0 then none else some (M a (j : Int)).toNat))).setSlot _ (.ref x.toNat)) = some (arrV cA N (fun j => va_rf (if m_s M a i x a (j : Int) < 0 then none else some (m_s M a i x a (j : Int)).toNat)))
  rw [arrV_store, hcl0]
  congr 2
  funext q
  by_cases hq : q = i.toNat
  · subst hq
    simp only [updV, if_true]
    rw [hii, m_s_s, if_neg (by omega)]
    rfl
  · simp only [updV, if_neg hq]
    rw [m_s_n (fun h => hq (by omega))]
theorem go_alen (X : Cx l D cc own nm nL ret d mc ms sh0 sz0 Po g) {a : Int} {N : Nat} {ty : FieldType} (hk : sh a = some (.inr (ty, N))) (hty : ty = .int ∨ ty = .char ∨ ty = .boolean ∨ ty = .long ∨ ∃ C, ty = .object C) (hd : decode cc pc = .ok (.arraylength, 1)) (kk : Go g k n sh M sz (pc + 1) lv (vi N :: r)) : Go g k n sh M sz pc lv (vr a :: r) := by
  obtain ⟨p, l', e, R, s, m, args, below, meth, c, D', A, Q, nL'⟩ := g
  obtain ⟨rfl, rfl, rfl, rfl, rfl, hQ, hx, hb, hown, hts, hK, hN, hml, hr, hlk, hnm, hsz0⟩ := X
  intro H locs ls hR hA hz hS hl
  obtain ⟨h0, cA, ⟨hAr, hRA⟩, hcl⟩ := hR a _ hk
  have e0 : Int32.ofNat N = Int32.ofInt (N : Int) := Int32.ofInt_eq_ofNat.symm
  rcases hty with rfl | rfl | rfl | rfl | ⟨C, rfl⟩
  · exact W.alen hx hb hcl (hAr N (fun j => .int (Int32.ofInt (M a (j : Int))))) (by rw [← e0]; show (arrV _ _ _).slots.size.toInt32 = _; rw [arrV_size] <;> rfl) rfl rfl hd (kk H locs ls hR hA hz hS hl)
  · exact W.alen hx hb hcl (hAr N (fun j => .int (Int32.ofInt (M a (j : Int))))) (by rw [← e0]; show (arrV _ _ _).slots.size.toInt32 = _; rw [arrV_size] <;> rfl) rfl rfl hd (kk H locs ls hR hA hz hS hl)
  · exact W.alen hx hb hcl (hAr N (fun j => .int (Int32.ofInt (M a (j : Int))))) (by rw [← e0]; show (arrV _ _ _).slots.size.toInt32 = _; rw [arrV_size] <;> rfl) rfl rfl hd (kk H locs ls hR hA hz hS hl)
  · exact W.alen hx hb hcl (hAr N (fun j => .long (Int64.ofInt (M a (j : Int))))) (by rw [← e0]; show (arrV _ _ _).slots.size.toInt32 = _; rw [arrV_size] <;> rfl) rfl rfl hd (kk H locs ls hR hA hz hS hl)
  · exact W.alen hx hb hcl (hAr N (fun j => va_rf (if M a (j : Int) < 0 then none else some (M a (j : Int)).toNat))) (by rw [← e0]; show (arrV _ _ _).slots.size.toInt32 = _; rw [arrV_size] <;> rfl) rfl rfl hd (kk H locs ls hR hA hz hS hl)
theorem s_up_dom {sh sh0 : s_S} {sz sz0 : Int} {kd : s_K} (hA : ∀ a : Int, (sh a).isSome = true → s_fr sh0 sz0 a.toNat) (h0 : 0 ≤ sz) (hz : sz0 ≤ sz) : ∀ a : Int, (s_up sh sz kd a).isSome = true → s_fr sh0 sz0 a.toNat := by
  intro a ha
  by_cases e : a = sz
  · subst e
    refine Or.inr ?_
    rw [Int.toNat_of_nonneg h0]
    exact hz
  · rw [s_up_n e] at ha
    exact hA a ha
theorem va_S.push {A : Nat → Prop} {H0 H H1 : Heap} {locs : List Loc} (h : va_S A H0 H locs) (z : H1.size = H.size + 1) (oq : ∀ q : Nat, q < H.size → H1[q]? = H[q]?) : va_S A H0 H1 locs :=
  ⟨by have := h.1; omega, fun q g1 g2 => (oq q (Nat.lt_of_lt_of_le g1 h.1)).trans (h.2.1 q g1 g2), h.2.2⟩
theorem go_new (X : Cx l D cc own nm nL ret d mc ms sh0 sz0 Po g) {ix ci N : Nat} {C : String} {T : u_T} {ty0 : Nat → FieldType} {ts : List FieldType} {f : Int → Int} (hc : cOK ci C T N ty0) (hw1 : Cond.classLink own ix C ∈ wAll) (hw2 : Cond.instantiable C N ∈ wAll) (hw3 : Cond.initialized C ∈ wAll) (hts2 : ∀ j, j < N → ts[j]? = some (ty0 j)) (hf : ∀ j : Nat, j < N → s_v (ty0 j) (f (j : Int)) = defaultValue (ty0 j)) (hk : k + 1 ≤ mc) (hn : n + N ≤ ms) (hd : decode cc pc = .ok (.new ix, 3)) (kk : Go g (k + 1) (n + N) (s_up sh sz (.inl (ci, ts))) (m_new M sz f) (sz + 1) (pc + 3) lv (vr sz :: st)) : Go g k n sh M sz pc lv st := by
  obtain ⟨p, l', e, R, s, m, args, below, meth, c, D', A, Q, nL'⟩ := g
  obtain ⟨rfl, rfl, rfl, rfl, rfl, hQ, hx, hb, hown, hts, hK, hN, hml, hr, hlk, hnm, hsz0⟩ := X
  intro H locs ls hR hA hz hS hl
  obtain ⟨hc1, hin, hty, hnmd⟩ := hc
  have hKn := hK.1 ci _ hc1
  subst hz
  refine W.newcK hx hb hown (hts _ hw1) (hts _ hw2) (hts _ hw3) rfl hd hk hn hKn.2.1 rfl fun H1 kC hkC e1 z1 o1 => ?_
  refine kk H1 locs ls (hR.new rfl ?_ o1) (s_up_dom hA (by omega) (by have := hS.1; omega)) (by omega) (hS.push z1 o1) hl
  refine ⟨_, hc1, (u_born ty0 hts hin hKn hkC e1 hty).to (fun j hj => ?_)⟩
  rw [← hf j hj]
  show _ = (s_fs ts (fun j : Nat => f (j : Int))).getD j .null
  rw [List.getD_eq_getElem?_getD, s_fs_get ts (fun j : Nat => f (j : Int)) j (ty0 j) (hts2 j hj)]
  rfl
theorem go_newa (X : Cx l D cc own nm nL ret d mc ms sh0 sz0 Po g) {at0 : ArrayType} {ty : FieldType} {N : Nat} (hw : Cond.arrayClass ty ∈ wAll) (hat : newarray.typeOf at0 = ty) (hty : ty = .int ∨ ty = .char ∨ ty = .boolean ∨ ty = .long) (hN1 : N ≤ 100000) (hk : k + 1 ≤ mc) (hn : n + N ≤ ms) (hd : decode cc pc = .ok (.newarray at0, 2)) (kk : Go g (k + 1) (n + N) (s_up sh sz (.inr (ty, N))) (m_new M sz (fun _ => 0)) (sz + 1) (pc + 2) lv (vr sz :: r)) : Go g k n sh M sz pc lv (vi N :: r) := by
  obtain ⟨p, l', e, R, s, m, args, below, meth, c, D', A, Q, nL'⟩ := g
  obtain ⟨rfl, rfl, rfl, rfl, rfl, hQ, hx, hb, hown, hts, hK, hN, hml, hr, hlk, hnm, hsz0⟩ := X
  intro H locs ls hR hA hz hS hl
  subst hat
  subst hz
  have hN2 : (Int32.ofInt (N : Int)).toNatClampNeg = N := by rw [n_clamp (by omega)]; omega
  refine va_newaK hx hb (hts _ hw) rfl hd rfl (fun q => by rw [n_0, n_lt (by omega) (by omega)] at q; omega) hN2 (by rcases hty with h | h | h | h <;> rw [h] <;> simp only [componentBytes] <;> omega) hk hn rfl fun H1 cA e1 z1 o1 hAr hNm => ?_
  refine kk H1 locs ls (hR.new rfl ⟨cA, ⟨hAr, ?_⟩, ?_⟩ o1) (s_up_dom hA (by omega) (by have := hS.1; omega)) (by omega) (hS.push z1 o1) hl
  · cases at0 <;> exact hNm
  · show H1[H.size]? = _
    rw [e1]
    generalize newarray.typeOf at0 = ty at hty ⊢
    rcases hty with rfl | rfl | rfl | rfl <;> rfl
theorem go_anew (X : Cx l D cc own nm nL ret d mc ms sh0 sz0 Po g) {ix N : Nat} {C : String} (hw : Cond.classLink own ix C ∈ wAll) (hw2 : C ∈ aAll) (hN1 : N ≤ 100000) (hk : k + 1 ≤ mc) (hn : n + N ≤ ms) (hd : decode cc pc = .ok (.anewarray ix, 3)) (kk : Go g (k + 1) (n + N) (s_up sh sz (.inr (.object C, N))) (m_new M sz (fun _ => -1)) (sz + 1) (pc + 3) lv (vr sz :: r)) : Go g k n sh M sz pc lv (vi N :: r) := by
  obtain ⟨p, l', e, R, s, m, args, below, meth, c, D', A, Q, nL'⟩ := g
  obtain ⟨rfl, rfl, rfl, rfl, rfl, hQ, hx, hb, hown, hts, hK, hN, hml, hr, hlk, hnm, hsz0⟩ := X
  intro H locs ls hR hA hz hS hl
  subst hz
  have hN2 : (Int32.ofInt (N : Int)).toNatClampNeg = N := by rw [n_clamp (by omega)]; omega
  refine W.anew hx hb hown (hts _ hw) (va_AO.use (hN.2 _ hw2)) rfl hd rfl (fun q => by rw [n_0, n_lt (by omega) (by omega)] at q; omega) (by rw [hN2]; omega) hk (by rw [hN2]; exact hn) fun cA kA comp f1 f2 f3 f4 => ?_
  rw [hN2]
  generalize hH1 : H.push ({ cls := cA, slots := Array.replicate N .null, vm := .none } : Cell) = H1
  have z1 : H1.size = H.size + 1 := by rw [← hH1, Array.size_push]
  have e1 : H1[H.size]? = some (arrV cA N (fun _ => .null)) := by rw [← hH1, Array.getElem?_push_size, ← arrV_new]
  have o1 : ∀ q : Nat, q < H.size → H1[q]? = H[q]? := fun q hq => by rw [← hH1, Array.getElem?_push, if_neg (Nat.ne_of_lt hq)]
  have hAr : ArrOfT s cA (.object C) := fun N z => ⟨(fun k h => by cases h), kA, f2, comp, f3⟩
  refine kk H1 locs ls (hR.new rfl ⟨cA, ⟨hAr, ⟨kA, comp, f2, f3, f4, f1⟩⟩, ?_⟩ o1) (s_up_dom hA (by omega) (by have := hS.1; omega)) (by omega) (hS.push z1 o1) hl
  show H1[H.size]? = _
  rw [e1]
  rfl
theorem go_objInit (X : Cx l D cc own nm nL ret d mc ms sh0 sz0 Po g) {ix : Nat} {a : Int} (hw1 : Cond.methodLink own ix Lib.objectInit ∈ wAll) (hw2 : Cond.instanceMethod Lib.objectInit ∈ wAll) (hw3 : Cond.code Lib.objectInit ⟨#[0xb1]⟩ 1 none ∈ wAll) (hd1 : 1 ≤ d) (hr1 : (r.map fun v => v.category).sum ≤ 8) (hd : decode cc pc = .ok (.invokespecial ix, 3)) (kk : Go g k n sh M sz (pc + 3) lv r) : Go g k n sh M sz pc lv (vr a :: r) := by
  obtain ⟨p, l', e, R, s, m, args, below, meth, c, D', A, Q, nL'⟩ := g
  obtain ⟨rfl, rfl, rfl, rfl, rfl, hQ, hx, hb, hown, hts, hK, hN, hml, hr, hlk, hnm, hsz0⟩ := X
  intro H locs ls hR hA hz hS hl
  exact W.objInit hx hb hown (hts _ hw1) (hts _ hw2) (hts _ hw3) rfl (by rw [hml]; exact hl.1) rfl hd (by show 1 ≤ d; exact hd1) (by show 2 * 0 + _ + 12 ≤ 100 * d; omega) (kk H locs ls hR hA hz hS hl)
theorem wAll_in {y' : MethodName} {cc' : ByteArray} {nL' : Nat} {ret' : Option FieldType} (h : Cond.code y' cc' nL' ret' ∈ wAll) : GoodIn wAll (wOf y' cc' nL' ret') := by
  intro w hw
  have h1 : w ∈ wAll := by
    rcases List.mem_cons.mp hw with e | e
    · rw [e]; exact h
    · exact e
  exact ⟨h1, good_of_word (List.all_eq_true.mp wAll_ok w h1)⟩
/-- a call: what the tables say of it; nest: by the words of nest mates -/
def kOK (own : String) (ix : Nat) (y : MethodName) (bytes : ByteArray) (maxL : Nat) (ret : Option FieldType) (np : Nat) : Prop :=
  Cond.code y bytes maxL ret ∈ wAll ∧ Cond.initialized y.cls ∈ wAll ∧ (y.cls ≠ "java/lang/invoke/MethodHandle" ∧ y.cls ≠ "java/lang/invoke/VarHandle" ∧ (parseMethodDescriptor y.desc).map (fun d => d.parameters.length) = some np) ∧ (Cond.methodLink own ix y ∈ wAll ∨ ∃ host : String, Cond.methodLinkNest own ix y host ∈ nAll)
theorem s_blind {D : va_G} {av : List Value} {sh : s_S} {M : s_M} {sz : Int} : FrameBlind (s_Pre D av sh M sz) := fun a U g mk q => by
  obtain ⟨q0, q1, q2, q3, q4⟩ := q
  exact ⟨q0, q1, s_R.moved (u := U) (U := U.calling g mk a) (Vm.Alike.refl U.vm) q2, va_K.moved (u := U) (U := U.calling g mk a) (Vm.Alike.refl U.vm) q3, s_N.same (u := U) (U := U.calling g mk a) rfl q4⟩
theorem s_start {D : va_G} {av : List Value} {sh : s_S} {M : s_M} {sz : Int} {s : State} {H : Heap} (hR : s_R D cAll s sh M H) (hz : (H.size : Int) = sz) (hK : va_K D cAll [] s) (hN : s_N s) : ∀ U : State, U.heap = H → s.WarmedH U.vm → s_Pre D av sh M sz av.toArray U := fun U hU hW =>
  ⟨rfl, by rw [hU]; exact hz, by rw [hU]; exact hR.moved hW.alike, va_K.moved hW.alike hK, hN.warm hW⟩
/-- behind a call -/
theorem go_back {p : Program} {l : Launch} {e : Env} {R : Room} {s : State} {m : MethodId} {args : Array Value} {below : List Frame} {meth : Method} {c : Code} {H : Heap} {locs : List Loc} {k n mc' ms' : Nat} {Q : State → Prop} {pc : Nat} {ls : Array Slot} {st0 rest : List Value} {a : Array Value} {D : va_G} {sh sh0 : s_S} {sz sz0 : Int} {Po' : s_Po} {nL : Nat} {lv : List (Nat × Value)}
    (hr : va_Run p l e R s m args below meth c H locs k n mc' ms' (F0 m pc ls st0) rest (s_Q D sh sz Po' a) (s_fr sh sz)) (hA : ∀ a : Int, (sh a).isSome = true → s_fr sh0 sz0 a.toNat) (hz : (H.size : Int) = sz) (hS : va_S (s_fr sh0 sz0) s.heap H locs) (hsz0 : (s.heap.size : Int) = sz0) (hl : lv_has ls nL lv)
    (kk : ∀ (v : Option Value) (sh' : s_S) (M' : s_M) (sz' : Int), Po' v sh' M' sz' → Go (p, l, e, R, s, m, args, below, meth, c, D, s_fr sh0 sz0, Q, nL) (k + mc') (n + ms') sh' M' sz' (pc + 3) lv (v.toList ++ rest)) : W p l e R s m args below meth c H locs k n Q (F0 m pc ls st0) := by
  have hfr : ∀ q : Nat, s_fr sh sz q → s_fr sh0 sz0 q := by
    intro q hq
    rcases hq with hq | hq
    · have h1 := hA (q : Int) hq
      rw [Int.toNat_natCast] at h1
      exact h1
    · refine Or.inr ?_
      have := hS.1
      omega
  intro T hT X
  obtain ⟨v, st₀, t, T', L, h0, X', hL, e1, e2, ⟨v', sh', M', hv, hP, hR', hdom, hz2, hk⟩, st⟩ := hr T hT X
  cases hv
  rw [h0] at hz2 hk
  obtain ⟨t2, a1, b1⟩ := kk v sh' M' (t.heap.size : Int) hP T'.heap (locs ++ L) ls (by rw [e1]; exact hR'.moved (by rw [← e2]; exact X'.warmed.alike.symm)) (fun b hb => hfr _ (hdom b hb)) (by rw [e1])
    ⟨Nat.le_trans hS.1 (by rw [e1]; exact hz2), fun q h1 h2 => by rw [e1, hk q (Nat.lt_of_lt_of_le h1 hS.1) (fun z => h2 (hfr q z))]; exact hS.2.1 q h1 h2, fun q hq => by
      rcases List.mem_append.mp hq with h | h
      · exact hS.2.2 q h
      · exact hfr _ (hL q h)⟩ hl T' rfl X'
  exact ⟨t2, st t2 a1, b1⟩
theorem go_callV (X : Cx l D cc own nm nL ret d mc ms sh0 sz0 Po g) {y : MethodName} {bytes : ByteArray} {maxL : Nat} {ret' : Option FieldType} {ix np d' mc' ms' : Nat} {As : List Value} {Po' : s_Po} {b : Int} {ci N : Nat} {T : u_T} {ts : List FieldType} (hc : kOK own ix y bytes maxL ret' np) (hw1 : Cond.instanceMethod y ∈ wAll) (hw2 : Cond.selects y.cls y y ∈ wAll) (hM : Sp l D y bytes maxL ret' d' mc' ms' (vr b :: As) sh M sz Po') (hsh : sh b = some (.inl (ci, ts))) (hcl : cAll[ci]? = some (y.cls, T, N)) (hlen : As.length = np) (hst : st = As.reverse ++ vr b :: r) (hdd : d' + 1 ≤ d) (hmx : maxL ≤ 80) (hk : k + mc' ≤ mc) (hn : n + ms' ≤ ms) (hr1 : (r.map fun v => v.category).sum ≤ 8) (hd : decode cc pc = .ok (.invokevirtual ix, 3)) (kk : ∀ (v : Option Value) (sh' : s_S) (M' : s_M) (sz' : Int), Po' v sh' M' sz' → Go g (k + mc') (n + ms') sh' M' sz' (pc + 3) lv (v.toList ++ r)) : Go g k n sh M sz pc lv st := by
  obtain ⟨p, l', e, R, s, m, args, below, meth, c, D', A, Q, nL'⟩ := g
  obtain ⟨rfl, rfl, rfl, rfl, rfl, hQ, hx, hb, hown, hts, hK, hN, hml, hr, hlk, hnm, hsz0⟩ := X
  intro H locs ls hR hA hz hS hl
  obtain ⟨hc1, hc2, hc3, hc4⟩ := hc
  subst hst
  obtain ⟨hb0, hatb⟩ := hR b _ hsh
  have hrecv := va_recv hK (va_one (q := (b.toNat, .inr (ci, s_fs ts (s_row M b)))) hatb) hcl (q0 := 0) rfl
  have hpre : PreV s H y.cls b.toNat (s_Pre D' (vr b :: As) sh M sz) As := ⟨s_blind, hrecv, s_start hR hz hK hN⟩
  rcases hc4 with hl4 | ⟨host, hl4⟩
  · exact go_back (va_runV (n := np) (rest := r) ⟨hx, hb, hml, hown, hts⟩ hM ⟨callB_of np hts (wAll_in hc1) rfl rfl rfl (hts _ hc2) (hts _ hl4) hc3 ⟨by show d' + 1 ≤ d; exact hdd, by show 8 + (maxL + 11) + 100 * d' ≤ 100 * d; omega⟩, hts _ hw1, hts _ hw2⟩ hpre rfl hlen hl.1 rfl (lv_room hr1) hd ⟨hk, hn⟩) hA hz hS hsz0 hl kk
  · exact go_back (va_runVN (n := np) (rest := r) ⟨hx, hb, hml, hown, hts⟩ hM ⟨va_cnB np hts (wAll_in hc1) rfl rfl rfl (hN.1 _ hl4) (hts _ hc2) hc3 ⟨by show d' + 1 ≤ d; exact hdd, by show 8 + (maxL + 11) + 100 * d' ≤ 100 * d; omega⟩, hts _ hw1, hts _ hw2⟩ hpre rfl hlen hl.1 rfl (lv_room hr1) hd ⟨hk, hn⟩) hA hz hS hsz0 hl kk
theorem go_callS (X : Cx l D cc own nm nL ret d mc ms sh0 sz0 Po g) {y : MethodName} {bytes : ByteArray} {maxL : Nat} {ret' : Option FieldType} {ix np d' mc' ms' : Nat} {As : List Value} {Po' : s_Po} (hc : kOK own ix y bytes maxL ret' np) (hw1 : Cond.static y ∈ wAll) (hM : Sp l D y bytes maxL ret' d' mc' ms' As sh M sz Po') (hlen : As.length = np) (hst : st = As.reverse ++ r) (hdd : d' + 1 ≤ d) (hmx : maxL ≤ 80) (hk : k + mc' ≤ mc) (hn : n + ms' ≤ ms) (hr1 : (r.map fun v => v.category).sum ≤ 8) (hd : decode cc pc = .ok (.invokestatic ix, 3)) (kk : ∀ (v : Option Value) (sh' : s_S) (M' : s_M) (sz' : Int), Po' v sh' M' sz' → Go g (k + mc') (n + ms') sh' M' sz' (pc + 3) lv (v.toList ++ r)) : Go g k n sh M sz pc lv st := by
  obtain ⟨p, l', e, R, s, m, args, below, meth, c, D', A, Q, nL'⟩ := g
  obtain ⟨rfl, rfl, rfl, rfl, rfl, hQ, hx, hb, hown, hts, hK, hN, hml, hr, hlk, hnm, hsz0⟩ := X
  intro H locs ls hR hA hz hS hl
  obtain ⟨hc1, hc2, hc3, hc4⟩ := hc
  subst hst
  have hpre : PreS s H (s_Pre D' As sh M sz) As := ⟨s_blind, s_start hR hz hK hN⟩
  rcases hc4 with hl4 | ⟨host, hl4⟩
  · exact go_back (va_runS (n := np) (rest := r) ⟨hx, hb, hml, hown, hts⟩ hM ⟨callB_of np hts (wAll_in hc1) rfl rfl rfl (hts _ hc2) (hts _ hl4) hc3 ⟨by show d' + 1 ≤ d; exact hdd, by show 8 + (maxL + 11) + 100 * d' ≤ 100 * d; omega⟩, hts _ hw1⟩ hpre rfl hlen hl.1 rfl (lv_room hr1) hd ⟨hk, hn⟩) hA hz hS hsz0 hl kk
  · exact go_back (va_runSN (n := np) (rest := r) ⟨hx, hb, hml, hown, hts⟩ hM ⟨va_cnB np hts (wAll_in hc1) rfl rfl rfl (hN.1 _ hl4) (hts _ hc2) hc3 ⟨by show d' + 1 ≤ d; exact hdd, by show 8 + (maxL + 11) + 100 * d' ≤ 100 * d; omega⟩, hts _ hw1, trivial⟩ hpre rfl hlen hl.1 rfl (lv_room hr1) hd ⟨hk, hn⟩) hA hz hS hsz0 hl kk
theorem go_callI (X : Cx l D cc own nm nL ret d mc ms sh0 sz0 Po g) {y : MethodName} {bytes : ByteArray} {maxL : Nat} {ix np d' mc' ms' : Nat} {As : List Value} {Po' : s_Po} {b : Int} (hc : kOK own ix y bytes maxL none np) (hw1 : Cond.instanceMethod y ∈ wAll) (hy1 : y.name = "<init>") (hM : Sp l D y bytes maxL none d' mc' ms' (vr b :: As) sh M sz Po') (hlen : As.length = np) (hst : st = As.reverse ++ vr b :: r) (hdd : d' + 1 ≤ d) (hmx : maxL ≤ 80) (hk : k + mc' ≤ mc) (hn : n + ms' ≤ ms) (hr1 : (r.map fun v => v.category).sum ≤ 8) (hd : decode cc pc = .ok (.invokespecial ix, 3)) (kk : ∀ (v : Option Value) (sh' : s_S) (M' : s_M) (sz' : Int), Po' v sh' M' sz' → Go g (k + mc') (n + ms') sh' M' sz' (pc + 3) lv (v.toList ++ r)) : Go g k n sh M sz pc lv st := by
  obtain ⟨p, l', e, R, s, m, args, below, meth, c, D', A, Q, nL'⟩ := g
  obtain ⟨rfl, rfl, rfl, rfl, rfl, hQ, hx, hb, hown, hts, hK, hN, hml, hr, hlk, hnm, hsz0⟩ := X
  intro H locs ls hR hA hz hS hl
  obtain ⟨hc1, hc2, hc3, hc4⟩ := hc
  subst hst
  have hpre : PreS s H (s_Pre D' (vr b :: As) sh M sz) (vr b :: As) := ⟨s_blind, s_start hR hz hK hN⟩
  rcases hc4 with hl4 | ⟨host, hl4⟩
  · exact go_back (va_runI (n := np) (rest := r) ⟨hx, hb, hml, hown, hts⟩ hM ⟨callB_of np hts (wAll_in hc1) rfl rfl rfl (hts _ hc2) (hts _ hl4) hc3 ⟨by show d' + 1 ≤ d; exact hdd, by show 8 + (maxL + 11) + 100 * d' ≤ 100 * d; omega⟩, hy1, hts _ hw1⟩ hpre rfl hlen hl.1 rfl (lv_room hr1) hd ⟨hk, hn⟩) hA hz hS hsz0 hl kk
  · exact go_back (va_runIN (n := np) (rest := r) ⟨hx, hb, hml, hown, hts⟩ hM ⟨va_cnB np hts (wAll_in hc1) rfl rfl rfl (hN.1 _ hl4) (hts _ hc2) hc3 ⟨by show d' + 1 ≤ d; exact hdd, by show 8 + (maxL + 11) + 100 * d' ≤ 100 * d; omega⟩, hy1, hts _ hw1⟩ hpre rfl hlen hl.1 rfl (lv_room hr1) hd ⟨hk, hn⟩) hA hz hS hsz0 hl kk
end GoHeap
