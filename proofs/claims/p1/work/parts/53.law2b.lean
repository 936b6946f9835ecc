/-! The law: a case on a new object. -/
def u64 (x : Int) : Int := x % 18446744073709551616
theorem u64_vl (x : Int) : vl x = vl (u64 x) := by
  show Value.long (Int64.ofInt x) = Value.long (Int64.ofInt (x % 18446744073709551616))
  congr 1
  apply Int64.toInt.inj
  rw [Int64.toInt_ofInt, Int64.toInt_ofInt]
  show x.bmod 18446744073709551616 = (x % 18446744073709551616).bmod 18446744073709551616
  show x.bmod 18446744073709551616 = (x % ((18446744073709551616 : Nat) : Int)).bmod 18446744073709551616
  rw [Int.emod_bmod]
theorem u64_rng (x : Int) : 0 ≤ u64 x ∧ u64 x < 18446744073709551616 := by
  unfold u64
  omega
def lan_ (x y : Int) : Int := (Int64.ofInt x &&& Int64.ofInt y).toInt
def lor_ (x y : Int) : Int := (Int64.ofInt x ||| Int64.ofInt y).toInt
def lsh_ (x y : Int) : Int := (Int64.ofInt x <<< ((Int32.ofInt y).toInt64 &&& 63)).toInt
def ian_ (x y : Int) : Int := (Int32.ofInt x &&& Int32.ofInt y).toInt
theorem lor_rng (x y : Int) : rL (lor_ x y) := ⟨Int64.le_toInt _, Int64.toInt_lt _⟩
theorem ian_rng (x y : Int) : -2147483648 ≤ ian_ x y ∧ ian_ x y < 2147483648 := ⟨Int32.le_toInt _, Int32.toInt_lt _⟩
theorem s_cmp_self (x : Int) : s_cmp x x = 0 := by
  unfold s_cmp
  rw [if_neg (by omega), if_pos rfl]
/-- the script: a cell of the start that nobody writes -/
def z_C (b L : Nat) (xs : Nat → Int32) (g : g_X) : Prop := match g with
  | (_, _, _, _, s, _, _, _, _, _, _, A, _, _) => va_X b L xs s s.heap ∧ b < s.heap.size ∧ ¬ A b
def scr_ (xs : Nat → Int32) : Int → Int := fun j => (xs j.toNat).toInt
theorem scr_rng (xs : Nat → Int32) (j : Int) : -2147483648 ≤ scr_ xs j ∧ scr_ xs j < 2147483648 := ⟨Int32.le_toInt _, Int32.toInt_lt _⟩
section GoScript
variable {l : Launch} {D : va_G} {cc : ByteArray} {own nm : String} {nL : Nat} {ret : Option FieldType} {d mc ms : Nat} {sh0 : s_S} {sz0 : Int} {Po : s_Po} {g : g_X} {k n : Nat} {sh : s_S} {M : s_M} {sz : Int} {pc : Nat} {lv : List (Nat × Value)} {r : List Value} {b N : Nat} {xs : Nat → Int32}
theorem go_scrlen (X : Cx l D cc own nm nL ret d mc ms sh0 sz0 Po g) (Z : z_C b N xs g) (hd : decode cc pc = .ok (.arraylength, 1)) (kk : Go g k n sh M sz (pc + 1) lv (vi N :: r)) : Go g k n sh M sz pc lv (vr (b : Int) :: r) := by
  obtain ⟨p, l', e, R, s, m, args, below, meth, c, D', A, Q, nL'⟩ := g
  obtain ⟨rfl, rfl, rfl, rfl, rfl, hQ, hx, hb, hown, hts, hK, hN, hml, hr, hlk, hnm, hsz0⟩ := X
  obtain ⟨⟨scr, z1, z2, z3, z4, z5⟩, z6, z7⟩ := Z
  intro H locs ls hR hA hz hS hl
  have hcl : H[b]? = some scr := (hS.2.1 b z6 z7).trans z1
  exact W.alen hx hb hcl z2 (by rw [z4]; exact Int32.ofInt_eq_ofNat.symm) rfl rfl hd (kk H locs ls hR hA hz hS hl)
theorem go_scr (X : Cx l D cc own nm nL ret d mc ms sh0 sz0 Po g) (Z : z_C b N xs g) {i : Int} (hN1 : N < 2147483648) (hi : 0 ≤ i ∧ i < N) (hd : decode cc pc = .ok (.iaload, 1)) (kk : Go g k n sh M sz (pc + 1) lv (vi (scr_ xs i) :: r)) : Go g k n sh M sz pc lv (vi i :: vr (b : Int) :: r) := by
  obtain ⟨p, l', e, R, s, m, args, below, meth, c, D', A, Q, nL'⟩ := g
  obtain ⟨rfl, rfl, rfl, rfl, rfl, hQ, hx, hb, hown, hts, hK, hN, hml, hr, hlk, hnm, hsz0⟩ := X
  obtain ⟨⟨scr, z1, z2, z3, z4, z5⟩, z6, z7⟩ := Z
  intro H locs ls hR hA hz hS hl
  have hcl : H[b]? = some scr := (hS.2.1 b z6 z7).trans z1
  have hin : vp_in (Int32.ofInt i) N := n_in hi.1 hi.2 hN1
  have hcl0 : (Int32.ofInt i).toNatClampNeg = i.toNat := n_clamp (by omega)
  refine W.iald (v := vi (scr_ xs i)) hx hb hcl z2 z3 (by rw [z4]; exact hin) ?_ rfl rfl hd (kk H locs ls hR hA hz hS hl)
  rw [hcl0, z5 i.toNat (by omega)]
  show some (Value.int (xs i.toNat)) = some (Value.int (Int32.ofInt (xs i.toNat).toInt))
  rw [Int32.ofInt_toInt]
end GoScript
theorem mks.mv {sh sh' : s_S} {M M' : s_M} {r : Int} (h : mks sh M r mL) (hu : as_ r (r + 29) sh M sh' M') : mks sh' M' r mL := by
  have hoff : mL.all (fun q => decide (1 ≤ q.2.2.2) && decide (q.2.2.2 ≤ 28)) = true := by decide
  obtain ⟨h1, h2, h3, h4⟩ := h
  have e := hu r (by omega) (by omega)
  refine ⟨by rw [e.1]; exact h1, h2, fun j q hq => ?_, fun f hf => by rw [e.2]; exact h4 f hf⟩
  have g1 := List.all_eq_true.mp hoff q (List.mem_of_getElem? hq)
  simp only [Bool.and_eq_true, decide_eq_true_eq] at g1
  have e2 := hu (r + q.2.2.2) (by omega) (by omega)
  obtain ⟨k1, k2, k3, k4⟩ := h3 j q hq
  exact ⟨k1, by rw [e2.1]; exact k2, by rw [e2.2]; exact k3, by rw [e.2]; exact k4⟩
set_option maxHeartbeats 4000000 in
set_option maxRecDepth 100000 in
theorem lw_write {l : Launch} (hl : l.stackTraces = false) {D : va_G} {nm : String} {d mc ms : Nat} {sh0 : s_S} {sz0 : Int} {Po : s_Po} {g : g_X} {k n : Nat} (X : Cx l D code "CiteForgeLaw" nm 8 ret d mc ms sh0 sz0 Po g) {hh : List (Nat × Nat × Nat × Nat)} (YY : y_C sh0 sz0 hh g) (hd0 : 20 ≤ d) (hk0 : k + 1 ≤ mc) (hn0 : n + 6 ≤ ms) {sh : s_S} {M : s_M} {o i : Int} {b N : Nat} {xs : Nat → Int32} (Z : z_C b N xs g) (hcf : cf0 sh M o) (hmk0 : mks sh M (o + 247) mL) (hq : sh (o + 276) = some (.inr (.long, 1))) (hi : 0 ≤ i ∧ i + 5 ≤ N) (hN : N ≤ 100000) (kont : ∀ (k' n' : Nat) (M' : s_M) (sz' : Int), k' ≤ k + 1 → n' ≤ n + 6 → Go g k' n' sh M' sz' 1224 [(4, vi i), (3, vr (o + 276)), (2, vr (o + 247)), (1, vr o), (0, vr (b : Int))] []) : Go g k n sh M (o + 277) 132 [(4, vi i), (3, vr (o + 276)), (2, vr (o + 247)), (1, vr o), (0, vr (b : Int))] [] := by
  have hSr := scr_rng xs
  refine go_aload_n X d_Law_law_132 rfl rfl ?_
  refine go_aload_n X d_Law_law_133 rfl rfl ?_
  refine go_iload X d_Law_law_134 rfl ?_
  refine go_iconst (v := 1) X d_Law_law_136 ?_
  refine go_iadd X d_Law_law_137 ?_
  refine go_scr X Z (by omega) (by omega) d_Law_law_138 ?_
  refine go_i2l X d_Law_law_139 (by have := hSr (i + 1); omega) ?_
  refine go_bipush (v := 32) X d_Law_law_140 (by decide) ?_
  refine go_lshl (z := lsh_ (scr_ xs (i + 1)) 32) X d_Law_law_142 (Int64.ofInt_toInt _).symm ?_
  refine go_aload_n X d_Law_law_143 rfl rfl ?_
  refine go_iload X d_Law_law_144 rfl ?_
  refine go_iconst (v := 2) X d_Law_law_146 ?_
  refine go_iadd X d_Law_law_147 ?_
  refine go_scr X Z (by omega) (by omega) d_Law_law_148 ?_
  refine go_i2l X d_Law_law_149 (by have := hSr (i + 2); omega) ?_
  refine go_ldc2 (x := 4294967295) X w_kl_Law_72 (by decide) d_Law_law_150 ?_
  refine go_land (z := lan_ (scr_ xs (i + 2)) 4294967295) X d_Law_law_153 (Int64.ofInt_toInt _).symm ?_
  refine go_lor (z := lor_ (lsh_ (scr_ xs (i + 1)) 32) (lan_ (scr_ xs (i + 2)) 4294967295)) X d_Law_law_154 (Int64.ofInt_toInt _).symm ?_
  refine go_top (v' := vl (u64 (lor_ (lsh_ (scr_ xs (i + 1)) 32) (lan_ (scr_ xs (i + 2)) 4294967295)))) X (u64_vl _) ?_
  refine go_aload_n X d_Law_law_155 rfl rfl ?_
  refine go_iload X d_Law_law_156 rfl ?_
  refine go_iconst (v := 3) X d_Law_law_158 ?_
  refine go_iadd X d_Law_law_159 ?_
  refine go_scr X Z (by omega) (by omega) d_Law_law_160 ?_
  refine go_aload_n X d_Law_law_161 rfl rfl ?_
  refine go_callSW (r := []) (np := 4) X YY lw_write_c lw_ini (by decide +kernel) lw_write_l lw_write_s (h_write l hl D hcf.1 hcf.2.2.2.2.1 (u64_rng _) (hSr _) hq (by omega)) rfl rfl (by omega) (by decide) (by omega) (by omega) (Nat.le_of_ble_eq_true rfl) d_Law_law_162 (fun v' sh' M1 sz1 hp => ?_)
  obtain ⟨kc, vv, hkc, hvv, hkr, e1, e2, hval, hsz, f1⟩ := hp
  subst e1
  rw [e2]
  show Go g (k + 1) (n + 6) sh M1 sz1 165 [(4, vi i), (3, vr (o + 276)), (2, vr (o + 247)), (1, vr o), (0, vr (b : Int))] [vi kc]
  have hmk := hmk0.mv (sh' := sh) (M' := M1) (fun z h1 h2 => ⟨rfl, f1 z (by show ¬ ((o + 1 ≤ z ∧ z ≤ o + 246) ∨ z = o + 276); omega)⟩)
  refine go_istore (lv' := [(5, vi kc), (4, vi i), (3, vr (o + 276)), (2, vr (o + 247)), (1, vr o), (0, vr (b : Int))]) X d_Law_law_165 (by decide) rfl ?_
  refine go_aload_n X d_Law_law_167 rfl rfl ?_
  refine go_aload_n X d_Law_law_168 rfl rfl ?_
  refine go_iload X d_Law_law_169 rfl ?_
  refine go_iconst (v := 1) X d_Law_law_171 ?_
  refine go_iadd X d_Law_law_172 ?_
  refine go_scr X Z (by omega) (by omega) d_Law_law_173 ?_
  refine go_i2l X d_Law_law_174 (by have := hSr (i + 1); omega) ?_
  refine go_bipush (v := 32) X d_Law_law_175 (by decide) ?_
  refine go_lshl (z := lsh_ (scr_ xs (i + 1)) 32) X d_Law_law_177 (Int64.ofInt_toInt _).symm ?_
  refine go_aload_n X d_Law_law_178 rfl rfl ?_
  refine go_iload X d_Law_law_179 rfl ?_
  refine go_iconst (v := 2) X d_Law_law_181 ?_
  refine go_iadd X d_Law_law_182 ?_
  refine go_scr X Z (by omega) (by omega) d_Law_law_183 ?_
  refine go_i2l X d_Law_law_184 (by have := hSr (i + 2); omega) ?_
  refine go_ldc2 (x := 4294967295) X w_kl_Law_72 (by decide) d_Law_law_185 ?_
  refine go_land (z := lan_ (scr_ xs (i + 2)) 4294967295) X d_Law_law_188 (Int64.ofInt_toInt _).symm ?_
  refine go_lor (z := lor_ (lsh_ (scr_ xs (i + 1)) 32) (lan_ (scr_ xs (i + 2)) 4294967295)) X d_Law_law_189 (Int64.ofInt_toInt _).symm ?_
  refine go_top (v' := vl (u64 (lor_ (lsh_ (scr_ xs (i + 1)) 32) (lan_ (scr_ xs (i + 2)) 4294967295)))) X (u64_vl _) ?_
  refine go_aload_n X d_Law_law_190 rfl rfl ?_
  refine go_iload X d_Law_law_191 rfl ?_
  refine go_iconst (v := 3) X d_Law_law_193 ?_
  refine go_iadd X d_Law_law_194 ?_
  refine go_scr X Z (by omega) (by omega) d_Law_law_195 ?_
  refine go_cV (st2 := []) (r := []) X k_Law_79 (m_write l D hmk.mds (t := []) (u64_rng _) (hSr _) (by decide) (hmk.zero (f := 2) (by decide) (by decide))) hmk.1 rfl rfl (by omega) (Nat.le_of_ble_eq_true rfl) d_Law_law_196 (by omega) (by omega) (fun v' sh' M2 sz2 hp => ?_)
  obtain ⟨bb, e4, hb, hbr, e5, e6, hthr, hmd, f2⟩ := hp
  subst e4
  rw [e5, e6]
  show Go g (k + 1) (n + 6) sh M2 (sz1) 199 [(5, vi kc), (4, vi i), (3, vr (o + 276)), (2, vr (o + 247)), (1, vr o), (0, vr (b : Int))] [vi bb]
  have hthr2 : M2 (o + 247) 0 = kc := hthr.trans hkc.symm
  have hb2 : kc = 0 → bb = vv := fun q => (hb (hkc.symm.trans q)).trans hvv.symm
  have hval2 : kc = 0 → M2 (o + 276) 0 = vv ∧ rL vv := fun q => ⟨(congrFun (f2 (o + 276) (by omega)) _).trans (hval q).1, (hval q).2⟩
  refine go_istore (lv' := [(6, vi bb), (5, vi kc), (4, vi i), (3, vr (o + 276)), (2, vr (o + 247)), (1, vr o), (0, vr (b : Int))]) X d_Law_law_199 (by decide) rfl ?_
  refine go_aload_n X d_Law_law_201 rfl rfl ?_
  refine go_cVf (st2 := [vi kc]) (r := []) X k_Law_80 (m_thrown l D hmd.1 hthr2) hmk0.1 rfl rfl (by omega) (Nat.le_of_ble_eq_true rfl) d_Law_law_202 (by omega) (by omega) rfl ?_
  refine go_iload X d_Law_law_205 rfl ?_
  refine go_icmp_eq (tgt := 212) X d_Law_law_207 rfl (by omega) (by omega) (fun _ => ?_) (fun h9 => absurd (show kc = kc by omega) h9)
  refine go_iload X d_Law_law_212 rfl ?_
  refine go_if_ne (tgt := 229) X d_Law_law_214 rfl (by omega) (fun hq1 => ?_) (fun hq1 => ?_)
  · skip
    refine go_goto (tgt := 1224) X d_Law_law_229 rfl ?_
    refine go_lv (lv' := [(4, vi i), (3, vr (o + 276)), (2, vr (o + 247)), (1, vr o), (0, vr (b : Int))]) X [2, 3, 4, 5, 6] rfl ?_
    exact kont _ _ M2 _ (by omega) (by omega)
  · skip
    obtain ⟨hv1, hv2⟩ := hval2 hq1
    have hb3 := hb2 hq1
    refine go_aload_n X d_Law_law_217 rfl rfl ?_
    refine go_iconst (v := 0) X d_Law_law_218 ?_
    refine go_lald X hq (by omega) (by omega) d_Law_law_219 ?_
    refine go_top (v' := vl vv) X (by rw [hv1]) ?_
    refine go_iload X d_Law_law_220 rfl ?_
    refine go_i2l X d_Law_law_222 (by omega) ?_
    refine go_lcmp X (by omega) (by omega) d_Law_law_223 ?_
    refine go_top (v' := vi 0) X (by rw [show vv = bb by omega, s_cmp_self]) ?_
    refine go_if_eq (tgt := 229) X d_Law_law_224 rfl (by omega) (fun _ => ?_) (fun h9 => absurd h9 (by decide))
    refine go_goto (tgt := 1224) X d_Law_law_229 rfl ?_
    refine go_lv (lv' := [(4, vi i), (3, vr (o + 276)), (2, vr (o + 247)), (1, vr o), (0, vr (b : Int))]) X [2, 3, 4, 5, 6] rfl ?_
    exact kont _ _ M2 _ (by omega) (by omega)
set_option maxHeartbeats 4000000 in
set_option maxRecDepth 100000 in
theorem lw_erase {l : Launch} (hl : l.stackTraces = false) {D : va_G} {nm : String} {d mc ms : Nat} {sh0 : s_S} {sz0 : Int} {Po : s_Po} {g : g_X} {k n : Nat} (X : Cx l D code "CiteForgeLaw" nm 8 ret d mc ms sh0 sz0 Po g) {hh : List (Nat × Nat × Nat × Nat)} (YY : y_C sh0 sz0 hh g) (hd0 : 20 ≤ d) (hk0 : k + 1 ≤ mc) (hn0 : n + 6 ≤ ms) {sh : s_S} {M : s_M} {o i : Int} {b N : Nat} {xs : Nat → Int32} (Z : z_C b N xs g) (hcf : cf0 sh M o) (hmk0 : mks sh M (o + 247) mL) (hq : sh (o + 276) = some (.inr (.long, 1))) (hi : 0 ≤ i ∧ i + 5 ≤ N) (hN : N ≤ 100000) (kont : ∀ (k' n' : Nat) (M' : s_M) (sz' : Int), k' ≤ k + 1 → n' ≤ n + 6 → Go g k' n' sh M' sz' 1224 [(4, vi i), (3, vr (o + 276)), (2, vr (o + 247)), (1, vr o), (0, vr (b : Int))] []) : Go g k n sh M (o + 277) 232 [(4, vi i), (3, vr (o + 276)), (2, vr (o + 247)), (1, vr o), (0, vr (b : Int))] [] := by
  have hSr := scr_rng xs
  refine go_aload_n X d_Law_law_232 rfl rfl ?_
  refine go_cV (st2 := []) (r := []) X k_Law_84 (f_erase l D hcf.1 hcf.2.2.2.2.1 ) hcf.1.1 rfl rfl (by omega) (Nat.le_of_ble_eq_true rfl) d_Law_law_233 (by omega) (by omega) (fun v' sh' M1 sz1 hp => ?_)
  obtain ⟨e1, e2, e3, _, f1⟩ := hp
  subst e1
  rw [e2, e3]
  show Go g k n sh M1 (o + 277) 236 [(4, vi i), (3, vr (o + 276)), (2, vr (o + 247)), (1, vr o), (0, vr (b : Int))] [vi 0]
  have hmk := hmk0.mv (sh' := sh) (M' := M1) (fun z h1 h2 => ⟨rfl, f1 z (by show ¬ (o + 1 ≤ z ∧ z ≤ o + 246); omega)⟩)
  refine go_aload_n X d_Law_law_236 rfl rfl ?_
  refine go_cV (st2 := []) (r := [vi 0]) X k_Law_87 (m_erase l D hmk.mds (by decide) (hmk.zero (f := 2) (by decide) (by decide))) hmk.1 rfl rfl (by omega) (Nat.le_of_ble_eq_true rfl) d_Law_law_237 (by omega) (by omega) (fun v' sh' M2 sz2 hp => ?_)
  obtain ⟨bb, e4, hb, hbr, e5, e6, hthr, hmd, f2⟩ := hp
  subst e4
  rw [e5, e6]
  show Go g k n sh M2 (o + 277) 240 [(4, vi i), (3, vr (o + 276)), (2, vr (o + 247)), (1, vr o), (0, vr (b : Int))] [vi bb, vi 0]
  have hb1 := hb rfl
  refine go_icmp_eq (tgt := 1224) X d_Law_law_240 rfl (by omega) (by omega) (fun _ => ?_) (fun h9 => absurd (show 0 = bb by omega) h9)
  refine go_lv (lv' := [(4, vi i), (3, vr (o + 276)), (2, vr (o + 247)), (1, vr o), (0, vr (b : Int))]) X [0, 1, 2, 3, 4] rfl ?_
  exact kont _ _ M2 _ (by omega) (by omega)
set_option maxHeartbeats 4000000 in
set_option maxRecDepth 100000 in
theorem lw_read {l : Launch} (hl : l.stackTraces = false) {D : va_G} {nm : String} {d mc ms : Nat} {sh0 : s_S} {sz0 : Int} {Po : s_Po} {g : g_X} {k n : Nat} (X : Cx l D code "CiteForgeLaw" nm 8 ret d mc ms sh0 sz0 Po g) {hh : List (Nat × Nat × Nat × Nat)} (YY : y_C sh0 sz0 hh g) (hd0 : 20 ≤ d) (hk0 : k + 1 ≤ mc) (hn0 : n + 6 ≤ ms) {sh : s_S} {M : s_M} {o i : Int} {b N : Nat} {xs : Nat → Int32} (Z : z_C b N xs g) (hcf : cf0 sh M o) (hmk0 : mks sh M (o + 247) mL) (hq : sh (o + 276) = some (.inr (.long, 1))) (hi : 0 ≤ i ∧ i + 5 ≤ N) (hN : N ≤ 100000) (kont : ∀ (k' n' : Nat) (M' : s_M) (sz' : Int), k' ≤ k + 1 → n' ≤ n + 6 → Go g k' n' sh M' sz' 1224 [(4, vi i), (3, vr (o + 276)), (2, vr (o + 247)), (1, vr o), (0, vr (b : Int))] []) : Go g k n sh M (o + 277) 245 [(4, vi i), (3, vr (o + 276)), (2, vr (o + 247)), (1, vr o), (0, vr (b : Int))] [] := by
  have hSr := scr_rng xs
  refine go_aload_n X d_Law_law_245 rfl rfl ?_
  refine go_cV (st2 := []) (r := []) X k_Law_88 (f_read0 l D hcf.1 hcf.2.2.2.1 hcf.2.2.2.2.1 hcf.2.2.2.2.2.1 rfl) hcf.1.1 rfl rfl (by omega) (Nat.le_of_ble_eq_true rfl) d_Law_law_246 (by omega) (by omega) (fun v' sh' M1 sz1 hp => ?_)
  obtain ⟨e1, e2, e3, _, _, _, f1⟩ := hp
  subst e1
  rw [e2, e3]
  show Go g k n sh M1 (o + 277) 249 [(4, vi i), (3, vr (o + 276)), (2, vr (o + 247)), (1, vr o), (0, vr (b : Int))] [vi 0]
  have hmk := hmk0.mv (sh' := sh) (M' := M1) (fun z h1 h2 => ⟨rfl, f1 z (by show ¬ (o + 1 ≤ z ∧ z ≤ o + 246); omega)⟩)
  refine go_aload_n X d_Law_law_249 rfl rfl ?_
  refine go_cV (st2 := []) (r := [vi 0]) X k_Law_91 (m_read0 l D hmk.mds (hmk.zero (f := 2) (by decide) (by decide))) hmk.1 rfl rfl (by omega) (Nat.le_of_ble_eq_true rfl) d_Law_law_250 (by omega) (by omega) (fun v' sh' M2 sz2 hp => ?_)
  obtain ⟨bb, e4, hb, hbr, e5, e6, hthr, hmd, f2⟩ := hp
  subst e4
  rw [e5, e6]
  show Go g k n sh M2 (o + 277) 253 [(4, vi i), (3, vr (o + 276)), (2, vr (o + 247)), (1, vr o), (0, vr (b : Int))] [vi bb, vi 0]
  have hb1 := hb rfl
  refine go_icmp_eq (tgt := 1224) X d_Law_law_253 rfl (by omega) (by omega) (fun _ => ?_) (fun h9 => absurd (show 0 = bb by omega) h9)
  refine go_lv (lv' := [(4, vi i), (3, vr (o + 276)), (2, vr (o + 247)), (1, vr o), (0, vr (b : Int))]) X [0, 1, 2, 3, 4] rfl ?_
  exact kont _ _ M2 _ (by omega) (by omega)
set_option maxHeartbeats 4000000 in
set_option maxRecDepth 100000 in
theorem lw_cite {l : Launch} (hl : l.stackTraces = false) {D : va_G} {nm : String} {d mc ms : Nat} {sh0 : s_S} {sz0 : Int} {Po : s_Po} {g : g_X} {k n : Nat} (X : Cx l D code "CiteForgeLaw" nm 8 ret d mc ms sh0 sz0 Po g) {hh : List (Nat × Nat × Nat × Nat)} (YY : y_C sh0 sz0 hh g) (hd0 : 20 ≤ d) (hk0 : k + 1 ≤ mc) (hn0 : n + 6 ≤ ms) {sh : s_S} {M : s_M} {o i : Int} {b N : Nat} {xs : Nat → Int32} (Z : z_C b N xs g) (hcf : cf0 sh M o) (hmk0 : mks sh M (o + 247) mL) (hq : sh (o + 276) = some (.inr (.long, 1))) (hi : 0 ≤ i ∧ i + 5 ≤ N) (hN : N ≤ 100000) (kont : ∀ (k' n' : Nat) (M' : s_M) (sz' : Int), k' ≤ k + 1 → n' ≤ n + 6 → Go g k' n' sh M' sz' 1224 [(4, vi i), (3, vr (o + 276)), (2, vr (o + 247)), (1, vr o), (0, vr (b : Int))] []) : Go g k n sh M (o + 277) 258 [(4, vi i), (3, vr (o + 276)), (2, vr (o + 247)), (1, vr o), (0, vr (b : Int))] [] := by
  have hSr := scr_rng xs
  refine go_aload_n X d_Law_law_258 rfl rfl ?_
  refine go_aload_n X d_Law_law_259 rfl rfl ?_
  refine go_iload X d_Law_law_260 rfl ?_
  refine go_iconst (v := 1) X d_Law_law_262 ?_
  refine go_iadd X d_Law_law_263 ?_
  refine go_scr X Z (by omega) (by omega) d_Law_law_264 ?_
  refine go_i2l X d_Law_law_265 (by have := hSr (i + 1); omega) ?_
  refine go_bipush (v := 32) X d_Law_law_266 (by decide) ?_
  refine go_lshl (z := lsh_ (scr_ xs (i + 1)) 32) X d_Law_law_268 (Int64.ofInt_toInt _).symm ?_
  refine go_aload_n X d_Law_law_269 rfl rfl ?_
  refine go_iload X d_Law_law_270 rfl ?_
  refine go_iconst (v := 2) X d_Law_law_272 ?_
  refine go_iadd X d_Law_law_273 ?_
  refine go_scr X Z (by omega) (by omega) d_Law_law_274 ?_
  refine go_i2l X d_Law_law_275 (by have := hSr (i + 2); omega) ?_
  refine go_ldc2 (x := 4294967295) X w_kl_Law_72 (by decide) d_Law_law_276 ?_
  refine go_land (z := lan_ (scr_ xs (i + 2)) 4294967295) X d_Law_law_279 (Int64.ofInt_toInt _).symm ?_
  refine go_lor (z := lor_ (lsh_ (scr_ xs (i + 1)) 32) (lan_ (scr_ xs (i + 2)) 4294967295)) X d_Law_law_280 (Int64.ofInt_toInt _).symm ?_
  refine go_top (v' := vl (u64 (lor_ (lsh_ (scr_ xs (i + 1)) 32) (lan_ (scr_ xs (i + 2)) 4294967295)))) X (u64_vl _) ?_
  refine go_aload_n X d_Law_law_281 rfl rfl ?_
  refine go_callSW (r := []) (np := 3) X YY lw_cite_c lw_ini (by decide +kernel) lw_cite_l lw_cite_s (h_cite l hl D hcf.1 hcf.2.2.2.2.2.1 (u64_rng _) hq (by omega)) rfl rfl (by omega) (by decide) (by omega) (by omega) (Nat.le_of_ble_eq_true rfl) d_Law_law_282 (fun v' sh' M1 sz1 hp => ?_)
  obtain ⟨kc, vv, hkc, hvv, hkr, e1, e2, hval, hsz, f1⟩ := hp
  subst e1
  rw [e2]
  show Go g (k + 1) (n + 6) sh M1 sz1 285 [(4, vi i), (3, vr (o + 276)), (2, vr (o + 247)), (1, vr o), (0, vr (b : Int))] [vi kc]
  have hmk := hmk0.mv (sh' := sh) (M' := M1) (fun z h1 h2 => ⟨rfl, f1 z (by show ¬ ((o + 1 ≤ z ∧ z ≤ o + 246) ∨ z = o + 276); omega)⟩)
  refine go_istore (lv' := [(5, vi kc), (4, vi i), (3, vr (o + 276)), (2, vr (o + 247)), (1, vr o), (0, vr (b : Int))]) X d_Law_law_285 (by decide) rfl ?_
  refine go_aload_n X d_Law_law_287 rfl rfl ?_
  refine go_aload_n X d_Law_law_288 rfl rfl ?_
  refine go_iload X d_Law_law_289 rfl ?_
  refine go_iconst (v := 1) X d_Law_law_291 ?_
  refine go_iadd X d_Law_law_292 ?_
  refine go_scr X Z (by omega) (by omega) d_Law_law_293 ?_
  refine go_i2l X d_Law_law_294 (by have := hSr (i + 1); omega) ?_
  refine go_bipush (v := 32) X d_Law_law_295 (by decide) ?_
  refine go_lshl (z := lsh_ (scr_ xs (i + 1)) 32) X d_Law_law_297 (Int64.ofInt_toInt _).symm ?_
  refine go_aload_n X d_Law_law_298 rfl rfl ?_
  refine go_iload X d_Law_law_299 rfl ?_
  refine go_iconst (v := 2) X d_Law_law_301 ?_
  refine go_iadd X d_Law_law_302 ?_
  refine go_scr X Z (by omega) (by omega) d_Law_law_303 ?_
  refine go_i2l X d_Law_law_304 (by have := hSr (i + 2); omega) ?_
  refine go_ldc2 (x := 4294967295) X w_kl_Law_72 (by decide) d_Law_law_305 ?_
  refine go_land (z := lan_ (scr_ xs (i + 2)) 4294967295) X d_Law_law_308 (Int64.ofInt_toInt _).symm ?_
  refine go_lor (z := lor_ (lsh_ (scr_ xs (i + 1)) 32) (lan_ (scr_ xs (i + 2)) 4294967295)) X d_Law_law_309 (Int64.ofInt_toInt _).symm ?_
  refine go_top (v' := vl (u64 (lor_ (lsh_ (scr_ xs (i + 1)) 32) (lan_ (scr_ xs (i + 2)) 4294967295)))) X (u64_vl _) ?_
  refine go_cV (st2 := []) (r := []) X k_Law_95 (m_cite l D hmk.mds (u64_rng _) (by decide) (fun _ => by decide) (hmk.zero (f := 13) (by decide) (by decide)) ((hmk.2.2.1 9 _ rfl).2.2.1)) hmk.1 rfl rfl (by omega) (Nat.le_of_ble_eq_true rfl) d_Law_law_310 (by omega) (by omega) (fun v' sh' M2 sz2 hp => ?_)
  obtain ⟨bb, e4, hb, hbr, e5, e6, hthr, hmd, f2⟩ := hp
  subst e4
  rw [e5, e6]
  show Go g (k + 1) (n + 6) sh M2 (sz1) 313 [(5, vi kc), (4, vi i), (3, vr (o + 276)), (2, vr (o + 247)), (1, vr o), (0, vr (b : Int))] [vi bb]
  have hthr2 : M2 (o + 247) 0 = kc := hthr.trans hkc.symm
  have hb2 : kc = 0 → bb = vv := fun q => (hb (hkc.symm.trans q)).trans hvv.symm
  have hval2 : kc = 0 → M2 (o + 276) 0 = vv ∧ rL vv := fun q => ⟨(congrFun (f2 (o + 276) (by omega)) _).trans (hval q).1, (hval q).2⟩
  refine go_istore (lv' := [(6, vi bb), (5, vi kc), (4, vi i), (3, vr (o + 276)), (2, vr (o + 247)), (1, vr o), (0, vr (b : Int))]) X d_Law_law_313 (by decide) rfl ?_
  refine go_aload_n X d_Law_law_315 rfl rfl ?_
  refine go_cVf (st2 := [vi kc]) (r := []) X k_Law_80 (m_thrown l D hmd.1 hthr2) hmk0.1 rfl rfl (by omega) (Nat.le_of_ble_eq_true rfl) d_Law_law_316 (by omega) (by omega) rfl ?_
  refine go_iload X d_Law_law_319 rfl ?_
  refine go_icmp_eq (tgt := 326) X d_Law_law_321 rfl (by omega) (by omega) (fun _ => ?_) (fun h9 => absurd (show kc = kc by omega) h9)
  refine go_iload X d_Law_law_326 rfl ?_
  refine go_if_ne (tgt := 350) X d_Law_law_328 rfl (by omega) (fun hq1 => ?_) (fun hq1 => ?_)
  · skip
    refine go_goto (tgt := 1224) X d_Law_law_350 rfl ?_
    refine go_lv (lv' := [(4, vi i), (3, vr (o + 276)), (2, vr (o + 247)), (1, vr o), (0, vr (b : Int))]) X [2, 3, 4, 5, 6] rfl ?_
    exact kont _ _ M2 _ (by omega) (by omega)
  · skip
    obtain ⟨hv1, hv2⟩ := hval2 hq1
    have hb3 := hb2 hq1
    have hz9 : vv = 0 ∨ vv = 1 := by rw [hvv]; exact civl_rng _ _ _
    refine go_aload_n X d_Law_law_331 rfl rfl ?_
    refine go_iconst (v := 0) X d_Law_law_332 ?_
    refine go_lald X hq (by omega) (by omega) d_Law_law_333 ?_
    refine go_top (v' := vl vv) X (by rw [hv1]) ?_
    refine go_iload X d_Law_law_334 rfl ?_
    refine go_if_eq (tgt := 343) X d_Law_law_336 rfl (by omega) (fun hq2 => ?_) (fun hq2 => ?_)
    · skip
      refine go_lconst (x := 0) X d_Law_law_343 (by decide) ?_
      refine go_lcmp X (by omega) (by omega) d_Law_law_344 ?_
      refine go_top (v' := vi 0) X (by rw [show vv = 0 by omega, s_cmp_self]) ?_
      refine go_if_eq (tgt := 350) X d_Law_law_345 rfl (by omega) (fun _ => ?_) (fun h9 => absurd h9 (by decide))
      refine go_goto (tgt := 1224) X d_Law_law_350 rfl ?_
      refine go_lv (lv' := [(4, vi i), (3, vr (o + 276)), (2, vr (o + 247)), (1, vr o), (0, vr (b : Int))]) X [2, 3, 4, 5, 6] rfl ?_
      exact kont _ _ M2 _ (by omega) (by omega)
    · skip
      refine go_lconst (x := 1) X d_Law_law_339 (by decide) ?_
      refine go_goto (tgt := 344) X d_Law_law_340 rfl ?_
      refine go_lcmp X (by omega) (by omega) d_Law_law_344 ?_
      refine go_top (v' := vi 0) X (by rw [show vv = 1 by omega, s_cmp_self]) ?_
      refine go_if_eq (tgt := 350) X d_Law_law_345 rfl (by omega) (fun _ => ?_) (fun h9 => absurd h9 (by decide))
      refine go_goto (tgt := 1224) X d_Law_law_350 rfl ?_
      refine go_lv (lv' := [(4, vi i), (3, vr (o + 276)), (2, vr (o + 247)), (1, vr o), (0, vr (b : Int))]) X [2, 3, 4, 5, 6] rfl ?_
      exact kont _ _ M2 _ (by omega) (by omega)
set_option maxHeartbeats 4000000 in
set_option maxRecDepth 100000 in
theorem lw_forget {l : Launch} (hl : l.stackTraces = false) {D : va_G} {nm : String} {d mc ms : Nat} {sh0 : s_S} {sz0 : Int} {Po : s_Po} {g : g_X} {k n : Nat} (X : Cx l D code "CiteForgeLaw" nm 8 ret d mc ms sh0 sz0 Po g) {hh : List (Nat × Nat × Nat × Nat)} (YY : y_C sh0 sz0 hh g) (hd0 : 20 ≤ d) (hk0 : k + 1 ≤ mc) (hn0 : n + 6 ≤ ms) {sh : s_S} {M : s_M} {o i : Int} {b N : Nat} {xs : Nat → Int32} (Z : z_C b N xs g) (hcf : cf0 sh M o) (hmk0 : mks sh M (o + 247) mL) (hq : sh (o + 276) = some (.inr (.long, 1))) (hi : 0 ≤ i ∧ i + 5 ≤ N) (hN : N ≤ 100000) (kont : ∀ (k' n' : Nat) (M' : s_M) (sz' : Int), k' ≤ k + 1 → n' ≤ n + 6 → Go g k' n' sh M' sz' 1224 [(4, vi i), (3, vr (o + 276)), (2, vr (o + 247)), (1, vr o), (0, vr (b : Int))] []) : Go g k n sh M (o + 277) 353 [(4, vi i), (3, vr (o + 276)), (2, vr (o + 247)), (1, vr o), (0, vr (b : Int))] [] := by
  have hSr := scr_rng xs
  refine go_aload_n X d_Law_law_353 rfl rfl ?_
  refine go_cV (st2 := []) (r := []) X k_Law_96 (f_forget l D hcf.1 hcf.2.2.2.2.2.1 ) hcf.1.1 rfl rfl (by omega) (Nat.le_of_ble_eq_true rfl) d_Law_law_354 (by omega) (by omega) (fun v' sh' M1 sz1 hp => ?_)
  obtain ⟨e1, e2, e3, _, f1⟩ := hp
  subst e1
  rw [e2, e3]
  show Go g k n sh M1 (o + 277) 357 [(4, vi i), (3, vr (o + 276)), (2, vr (o + 247)), (1, vr o), (0, vr (b : Int))] [vi 0]
  have hmk := hmk0.mv (sh' := sh) (M' := M1) (fun z h1 h2 => ⟨rfl, f1 z (by show ¬ (o + 1 ≤ z ∧ z ≤ o + 246); omega)⟩)
  refine go_aload_n X d_Law_law_357 rfl rfl ?_
  refine go_cV (st2 := []) (r := [vi 0]) X k_Law_99 (m_forget l D hmk.mds (by decide) (hmk.zero (f := 13) (by decide) (by decide))) hmk.1 rfl rfl (by omega) (Nat.le_of_ble_eq_true rfl) d_Law_law_358 (by omega) (by omega) (fun v' sh' M2 sz2 hp => ?_)
  obtain ⟨bb, e4, hb, hbr, e5, e6, hthr, hmd, f2⟩ := hp
  subst e4
  rw [e5, e6]
  show Go g k n sh M2 (o + 277) 361 [(4, vi i), (3, vr (o + 276)), (2, vr (o + 247)), (1, vr o), (0, vr (b : Int))] [vi bb, vi 0]
  have hb1 := hb rfl
  refine go_icmp_eq (tgt := 1224) X d_Law_law_361 rfl (by omega) (by omega) (fun _ => ?_) (fun h9 => absurd (show 0 = bb by omega) h9)
  refine go_lv (lv' := [(4, vi i), (3, vr (o + 276)), (2, vr (o + 247)), (1, vr o), (0, vr (b : Int))]) X [0, 1, 2, 3, 4] rfl ?_
  exact kont _ _ M2 _ (by omega) (by omega)
set_option maxHeartbeats 4000000 in
set_option maxRecDepth 100000 in
theorem lw_list {l : Launch} (hl : l.stackTraces = false) {D : va_G} {nm : String} {d mc ms : Nat} {sh0 : s_S} {sz0 : Int} {Po : s_Po} {g : g_X} {k n : Nat} (X : Cx l D code "CiteForgeLaw" nm 8 ret d mc ms sh0 sz0 Po g) {hh : List (Nat × Nat × Nat × Nat)} (YY : y_C sh0 sz0 hh g) (hd0 : 20 ≤ d) (hk0 : k + 1 ≤ mc) (hn0 : n + 6 ≤ ms) {sh : s_S} {M : s_M} {o i : Int} {b N : Nat} {xs : Nat → Int32} (Z : z_C b N xs g) (hcf : cf0 sh M o) (hmk0 : mks sh M (o + 247) mL) (hq : sh (o + 276) = some (.inr (.long, 1))) (hi : 0 ≤ i ∧ i + 5 ≤ N) (hN : N ≤ 100000) (kont : ∀ (k' n' : Nat) (M' : s_M) (sz' : Int), k' ≤ k + 1 → n' ≤ n + 6 → Go g k' n' sh M' sz' 1224 [(4, vi i), (3, vr (o + 276)), (2, vr (o + 247)), (1, vr o), (0, vr (b : Int))] []) : Go g k n sh M (o + 277) 366 [(4, vi i), (3, vr (o + 276)), (2, vr (o + 247)), (1, vr o), (0, vr (b : Int))] [] := by
  have hSr := scr_rng xs
  refine go_aload_n X d_Law_law_366 rfl rfl ?_
  refine go_aload_n X d_Law_law_367 rfl rfl ?_
  refine go_iload X d_Law_law_368 rfl ?_
  refine go_iconst (v := 1) X d_Law_law_370 ?_
  refine go_iadd X d_Law_law_371 ?_
  refine go_scr X Z (by omega) (by omega) d_Law_law_372 ?_
  refine go_aload_n X d_Law_law_373 rfl rfl ?_
  refine go_callSW (r := []) (np := 3) X YY lw_list_c lw_ini (by decide +kernel) lw_list_l lw_list_s (h_list l hl D hcf.1 hcf.2.2.2.1 hcf.2.2.2.2.2.1 (hSr _) rfl rfl hq (by omega)) rfl rfl (by omega) (by decide) (by omega) (by omega) (Nat.le_of_ble_eq_true rfl) d_Law_law_374 (fun v' sh' M1 sz1 hp => ?_)
  obtain ⟨kc, vv, hkc, hvv, hkr, e1, e2, hval, hsz, f1⟩ := hp
  subst e1
  rw [e2]
  show Go g (k + 1) (n + 6) sh M1 sz1 377 [(4, vi i), (3, vr (o + 276)), (2, vr (o + 247)), (1, vr o), (0, vr (b : Int))] [vi kc]
  have hmk := hmk0.mv (sh' := sh) (M' := M1) (fun z h1 h2 => ⟨rfl, f1 z (by show ¬ ((o + 1 ≤ z ∧ z ≤ o + 246) ∨ z = o + 276); omega)⟩)
  refine go_istore (lv' := [(5, vi kc), (4, vi i), (3, vr (o + 276)), (2, vr (o + 247)), (1, vr o), (0, vr (b : Int))]) X d_Law_law_377 (by decide) rfl ?_
  refine go_aload_n X d_Law_law_379 rfl rfl ?_
  refine go_aload_n X d_Law_law_380 rfl rfl ?_
  refine go_iload X d_Law_law_381 rfl ?_
  refine go_iconst (v := 1) X d_Law_law_383 ?_
  refine go_iadd X d_Law_law_384 ?_
  refine go_scr X Z (by omega) (by omega) d_Law_law_385 ?_
  refine go_cV (st2 := []) (r := []) X k_Law_103 (m_list0 l D hmk.mds (hSr _) (hmk.zero (f := 13) (by decide) (by decide)) (hmk.zero (f := 6) (by decide) (by decide))) hmk.1 rfl rfl (by omega) (Nat.le_of_ble_eq_true rfl) d_Law_law_386 (by omega) (by omega) (fun v' sh' M2 sz2 hp => ?_)
  obtain ⟨bb, e4, hb, hbr, e5, e6, hthr, hmd, f2⟩ := hp
  subst e4
  rw [e5, e6]
  show Go g (k + 1) (n + 6) sh M2 (sz1) 389 [(5, vi kc), (4, vi i), (3, vr (o + 276)), (2, vr (o + 247)), (1, vr o), (0, vr (b : Int))] [vi bb]
  have hthr2 : M2 (o + 247) 0 = kc := hthr.trans hkc.symm
  have hb2 : kc = 0 → bb = vv := fun q => (hb (hkc.symm.trans q)).trans hvv.symm
  have hval2 : kc = 0 → M2 (o + 276) 0 = vv ∧ rL vv := fun q => ⟨(congrFun (f2 (o + 276) (by omega)) _).trans (hval q).1, (hval q).2⟩
  refine go_istore (lv' := [(6, vi bb), (5, vi kc), (4, vi i), (3, vr (o + 276)), (2, vr (o + 247)), (1, vr o), (0, vr (b : Int))]) X d_Law_law_389 (by decide) rfl ?_
  refine go_aload_n X d_Law_law_391 rfl rfl ?_
  refine go_cVf (st2 := [vi kc]) (r := []) X k_Law_80 (m_thrown l D hmd.1 hthr2) hmk0.1 rfl rfl (by omega) (Nat.le_of_ble_eq_true rfl) d_Law_law_392 (by omega) (by omega) rfl ?_
  refine go_iload X d_Law_law_395 rfl ?_
  refine go_icmp_eq (tgt := 402) X d_Law_law_397 rfl (by omega) (by omega) (fun _ => ?_) (fun h9 => absurd (show kc = kc by omega) h9)
  refine go_iload X d_Law_law_402 rfl ?_
  refine go_if_ne (tgt := 419) X d_Law_law_404 rfl (by omega) (fun hq1 => ?_) (fun hq1 => ?_)
  · skip
    refine go_goto (tgt := 1224) X d_Law_law_419 rfl ?_
    refine go_lv (lv' := [(4, vi i), (3, vr (o + 276)), (2, vr (o + 247)), (1, vr o), (0, vr (b : Int))]) X [2, 3, 4, 5, 6] rfl ?_
    exact kont _ _ M2 _ (by omega) (by omega)
  · skip
    obtain ⟨hv1, hv2⟩ := hval2 hq1
    have hb3 := hb2 hq1
    refine go_aload_n X d_Law_law_407 rfl rfl ?_
    refine go_iconst (v := 0) X d_Law_law_408 ?_
    refine go_lald X hq (by omega) (by omega) d_Law_law_409 ?_
    refine go_top (v' := vl vv) X (by rw [hv1]) ?_
    refine go_iload X d_Law_law_410 rfl ?_
    refine go_i2l X d_Law_law_412 (by omega) ?_
    refine go_lcmp X (by omega) (by omega) d_Law_law_413 ?_
    refine go_top (v' := vi 0) X (by rw [show vv = bb by omega, s_cmp_self]) ?_
    refine go_if_eq (tgt := 419) X d_Law_law_414 rfl (by omega) (fun _ => ?_) (fun h9 => absurd h9 (by decide))
    refine go_goto (tgt := 1224) X d_Law_law_419 rfl ?_
    refine go_lv (lv' := [(4, vi i), (3, vr (o + 276)), (2, vr (o + 247)), (1, vr o), (0, vr (b : Int))]) X [2, 3, 4, 5, 6] rfl ?_
    exact kont _ _ M2 _ (by omega) (by omega)
set_option maxHeartbeats 4000000 in
set_option maxRecDepth 100000 in
theorem lw_key {l : Launch} (hl : l.stackTraces = false) {D : va_G} {nm : String} {d mc ms : Nat} {sh0 : s_S} {sz0 : Int} {Po : s_Po} {g : g_X} {k n : Nat} (X : Cx l D code "CiteForgeLaw" nm 8 ret d mc ms sh0 sz0 Po g) {hh : List (Nat × Nat × Nat × Nat)} (YY : y_C sh0 sz0 hh g) (hd0 : 20 ≤ d) (hk0 : k + 1 ≤ mc) (hn0 : n + 6 ≤ ms) {sh : s_S} {M : s_M} {o i : Int} {b N : Nat} {xs : Nat → Int32} (Z : z_C b N xs g) (hcf : cf0 sh M o) (hmk0 : mks sh M (o + 247) mL) (hq : sh (o + 276) = some (.inr (.long, 1))) (hi : 0 ≤ i ∧ i + 5 ≤ N) (hN : N ≤ 100000) (kont : ∀ (k' n' : Nat) (M' : s_M) (sz' : Int), k' ≤ k + 1 → n' ≤ n + 6 → Go g k' n' sh M' sz' 1224 [(4, vi i), (3, vr (o + 276)), (2, vr (o + 247)), (1, vr o), (0, vr (b : Int))] []) : Go g k n sh M (o + 277) 422 [(4, vi i), (3, vr (o + 276)), (2, vr (o + 247)), (1, vr o), (0, vr (b : Int))] [] := by
  have hSr := scr_rng xs
  refine go_aload_n X d_Law_law_422 rfl rfl ?_
  refine go_aload_n X d_Law_law_423 rfl rfl ?_
  refine go_iload X d_Law_law_424 rfl ?_
  refine go_iconst (v := 1) X d_Law_law_426 ?_
  refine go_iadd X d_Law_law_427 ?_
  refine go_scr X Z (by omega) (by omega) d_Law_law_428 ?_
  refine go_aload_n X d_Law_law_429 rfl rfl ?_
  refine go_callSW (r := []) (np := 3) X YY lw_key_c lw_ini (by decide +kernel) lw_key_l lw_key_s (h_key l hl D hcf.1 hcf.2.2.2.2.2.1 (hSr _) rfl hq (by omega)) rfl rfl (by omega) (by decide) (by omega) (by omega) (Nat.le_of_ble_eq_true rfl) d_Law_law_430 (fun v' sh' M1 sz1 hp => ?_)
  obtain ⟨kc, vv, hkc, hvv, hkr, e1, e2, hval, hsz, f1⟩ := hp
  subst e1
  rw [e2]
  show Go g (k + 1) (n + 6) sh M1 sz1 433 [(4, vi i), (3, vr (o + 276)), (2, vr (o + 247)), (1, vr o), (0, vr (b : Int))] [vi kc]
  have hmk := hmk0.mv (sh' := sh) (M' := M1) (fun z h1 h2 => ⟨rfl, f1 z (by show ¬ ((o + 1 ≤ z ∧ z ≤ o + 246) ∨ z = o + 276); omega)⟩)
  refine go_istore (lv' := [(5, vi kc), (4, vi i), (3, vr (o + 276)), (2, vr (o + 247)), (1, vr o), (0, vr (b : Int))]) X d_Law_law_433 (by decide) rfl ?_
  refine go_aload_n X d_Law_law_435 rfl rfl ?_
  refine go_aload_n X d_Law_law_436 rfl rfl ?_
  refine go_iload X d_Law_law_437 rfl ?_
  refine go_iconst (v := 1) X d_Law_law_439 ?_
  refine go_iadd X d_Law_law_440 ?_
  refine go_scr X Z (by omega) (by omega) d_Law_law_441 ?_
  refine go_cV (st2 := []) (r := []) X k_Law_106 (m_key0 l D hmk.mds (hSr _) (hmk.zero (f := 15) (by decide) (by decide))) hmk.1 rfl rfl (by omega) (Nat.le_of_ble_eq_true rfl) d_Law_law_442 (by omega) (by omega) (fun v' sh' M2 sz2 hp => ?_)
  obtain ⟨bb, e4, hb, hbr, e5, e6, hthr, hmd, f2⟩ := hp
  subst e4
  rw [e5, e6]
  show Go g (k + 1) (n + 6) sh M2 (sz1) 445 [(5, vi kc), (4, vi i), (3, vr (o + 276)), (2, vr (o + 247)), (1, vr o), (0, vr (b : Int))] [vl bb]
  have hthr2 : M2 (o + 247) 0 = kc := hthr.trans hkc.symm
  have hb2 : kc = 0 → bb = vv := fun q => (hb (hkc.symm.trans q)).trans hvv.symm
  have hval2 : kc = 0 → M2 (o + 276) 0 = vv ∧ rL vv := fun q => ⟨(congrFun (f2 (o + 276) (by omega)) _).trans (hval q).1, (hval q).2⟩
  refine go_lstore (lv' := [(6, vl bb), (5, vi kc), (4, vi i), (3, vr (o + 276)), (2, vr (o + 247)), (1, vr o), (0, vr (b : Int))]) X d_Law_law_445 (by decide) rfl ?_
  refine go_aload_n X d_Law_law_447 rfl rfl ?_
  refine go_cVf (st2 := [vi kc]) (r := []) X k_Law_80 (m_thrown l D hmd.1 hthr2) hmk0.1 rfl rfl (by omega) (Nat.le_of_ble_eq_true rfl) d_Law_law_448 (by omega) (by omega) rfl ?_
  refine go_iload X d_Law_law_451 rfl ?_
  refine go_icmp_eq (tgt := 458) X d_Law_law_453 rfl (by omega) (by omega) (fun _ => ?_) (fun h9 => absurd (show kc = kc by omega) h9)
  refine go_iload X d_Law_law_458 rfl ?_
  refine go_if_ne (tgt := 474) X d_Law_law_460 rfl (by omega) (fun hq1 => ?_) (fun hq1 => ?_)
  · skip
    refine go_goto (tgt := 1224) X d_Law_law_474 rfl ?_
    refine go_lv (lv' := [(4, vi i), (3, vr (o + 276)), (2, vr (o + 247)), (1, vr o), (0, vr (b : Int))]) X [2, 3, 4, 5, 6] rfl ?_
    exact kont _ _ M2 _ (by omega) (by omega)
  · skip
    obtain ⟨hv1, hv2⟩ := hval2 hq1
    have hb3 := hb2 hq1
    refine go_aload_n X d_Law_law_463 rfl rfl ?_
    refine go_iconst (v := 0) X d_Law_law_464 ?_
    refine go_lald X hq (by omega) (by omega) d_Law_law_465 ?_
    refine go_top (v' := vl vv) X (by rw [hv1]) ?_
    refine go_lload X d_Law_law_466 rfl ?_
    refine go_lcmp X (by omega) (by omega) d_Law_law_468 ?_
    refine go_top (v' := vi 0) X (by rw [show vv = bb by omega, s_cmp_self]) ?_
    refine go_if_eq (tgt := 474) X d_Law_law_469 rfl (by omega) (fun _ => ?_) (fun h9 => absurd h9 (by decide))
    refine go_goto (tgt := 1224) X d_Law_law_474 rfl ?_
    refine go_lv (lv' := [(4, vi i), (3, vr (o + 276)), (2, vr (o + 247)), (1, vr o), (0, vr (b : Int))]) X [2, 3, 4, 5, 6] rfl ?_
    exact kont _ _ M2 _ (by omega) (by omega)
set_option maxHeartbeats 4000000 in
set_option maxRecDepth 100000 in
theorem lw_sort {l : Launch} (hl : l.stackTraces = false) {D : va_G} {nm : String} {d mc ms : Nat} {sh0 : s_S} {sz0 : Int} {Po : s_Po} {g : g_X} {k n : Nat} (X : Cx l D code "CiteForgeLaw" nm 8 ret d mc ms sh0 sz0 Po g) {hh : List (Nat × Nat × Nat × Nat)} (YY : y_C sh0 sz0 hh g) (hd0 : 20 ≤ d) (hk0 : k + 1 ≤ mc) (hn0 : n + 6 ≤ ms) {sh : s_S} {M : s_M} {o i : Int} {b N : Nat} {xs : Nat → Int32} (Z : z_C b N xs g) (hcf : cf0 sh M o) (hmk0 : mks sh M (o + 247) mL) (hq : sh (o + 276) = some (.inr (.long, 1))) (hi : 0 ≤ i ∧ i + 5 ≤ N) (hN : N ≤ 100000) (kont : ∀ (k' n' : Nat) (M' : s_M) (sz' : Int), k' ≤ k + 1 → n' ≤ n + 6 → Go g k' n' sh M' sz' 1224 [(4, vi i), (3, vr (o + 276)), (2, vr (o + 247)), (1, vr o), (0, vr (b : Int))] []) : Go g k n sh M (o + 277) 477 [(4, vi i), (3, vr (o + 276)), (2, vr (o + 247)), (1, vr o), (0, vr (b : Int))] [] := by
  have hSr := scr_rng xs
  refine go_aload_n X d_Law_law_477 rfl rfl ?_
  refine go_cV (st2 := []) (r := []) X k_Law_107 (f_sort0 l D hcf.1 hcf.2.2.2.2.2.1 rfl) hcf.1.1 rfl rfl (by omega) (Nat.le_of_ble_eq_true rfl) d_Law_law_478 (by omega) (by omega) (fun v' sh' M1 sz1 hp => ?_)
  obtain ⟨e1, e2, e3, f1⟩ := hp
  subst e1
  rw [e2, e3]
  show Go g k n sh M1 (o + 277) 481 [(4, vi i), (3, vr (o + 276)), (2, vr (o + 247)), (1, vr o), (0, vr (b : Int))] [vi 0]
  have hmk := hmk0.mv (sh' := sh) (M' := M1) (fun z h1 h2 => ⟨rfl, f1 z (by show ¬ (o + 1 ≤ z ∧ z ≤ o + 246); omega)⟩)
  refine go_aload_n X d_Law_law_481 rfl rfl ?_
  refine go_cV (st2 := []) (r := [vi 0]) X k_Law_111 (m_sort0 l D hmk.mds (hmk.zero (f := 15) (by decide) (by decide))) hmk.1 rfl rfl (by omega) (Nat.le_of_ble_eq_true rfl) d_Law_law_482 (by omega) (by omega) (fun v' sh' M2 sz2 hp => ?_)
  obtain ⟨bb, e4, hb, hbr, e5, e6, hthr, hmd, f2⟩ := hp
  subst e4
  rw [e5, e6]
  show Go g k n sh M2 (o + 277) 485 [(4, vi i), (3, vr (o + 276)), (2, vr (o + 247)), (1, vr o), (0, vr (b : Int))] [vi bb, vi 0]
  have hb1 := hb rfl
  refine go_icmp_eq (tgt := 1224) X d_Law_law_485 rfl (by omega) (by omega) (fun _ => ?_) (fun h9 => absurd (show 0 = bb by omega) h9)
  refine go_lv (lv' := [(4, vi i), (3, vr (o + 276)), (2, vr (o + 247)), (1, vr o), (0, vr (b : Int))]) X [0, 1, 2, 3, 4] rfl ?_
  exact kont _ _ M2 _ (by omega) (by omega)
set_option maxHeartbeats 4000000 in
set_option maxRecDepth 100000 in
theorem lw_field {l : Launch} (hl : l.stackTraces = false) {D : va_G} {nm : String} {d mc ms : Nat} {sh0 : s_S} {sz0 : Int} {Po : s_Po} {g : g_X} {k n : Nat} (X : Cx l D code "CiteForgeLaw" nm 8 ret d mc ms sh0 sz0 Po g) {hh : List (Nat × Nat × Nat × Nat)} (YY : y_C sh0 sz0 hh g) (hd0 : 20 ≤ d) (hk0 : k + 1 ≤ mc) (hn0 : n + 6 ≤ ms) {sh : s_S} {M : s_M} {o i : Int} {b N : Nat} {xs : Nat → Int32} (Z : z_C b N xs g) (hcf : cf0 sh M o) (hmk0 : mks sh M (o + 247) mL) (hq : sh (o + 276) = some (.inr (.long, 1))) (hi : 0 ≤ i ∧ i + 5 ≤ N) (hN : N ≤ 100000) (kont : ∀ (k' n' : Nat) (M' : s_M) (sz' : Int), k' ≤ k + 1 → n' ≤ n + 6 → Go g k' n' sh M' sz' 1224 [(4, vi i), (3, vr (o + 276)), (2, vr (o + 247)), (1, vr o), (0, vr (b : Int))] []) : Go g k n sh M (o + 277) 490 [(4, vi i), (3, vr (o + 276)), (2, vr (o + 247)), (1, vr o), (0, vr (b : Int))] [] := by
  have hSr := scr_rng xs
  refine go_aload_n X d_Law_law_490 rfl rfl ?_
  refine go_aload_n X d_Law_law_491 rfl rfl ?_
  refine go_iload X d_Law_law_492 rfl ?_
  refine go_iconst (v := 1) X d_Law_law_494 ?_
  refine go_iadd X d_Law_law_495 ?_
  refine go_scr X Z (by omega) (by omega) d_Law_law_496 ?_
  refine go_aload_n X d_Law_law_497 rfl rfl ?_
  refine go_iload X d_Law_law_498 rfl ?_
  refine go_iconst (v := 2) X d_Law_law_500 ?_
  refine go_iadd X d_Law_law_501 ?_
  refine go_scr X Z (by omega) (by omega) d_Law_law_502 ?_
  refine go_i2l X d_Law_law_503 (by have := hSr (i + 2); omega) ?_
  refine go_bipush (v := 32) X d_Law_law_504 (by decide) ?_
  refine go_lshl (z := lsh_ (scr_ xs (i + 2)) 32) X d_Law_law_506 (Int64.ofInt_toInt _).symm ?_
  refine go_aload_n X d_Law_law_507 rfl rfl ?_
  refine go_iload X d_Law_law_508 rfl ?_
  refine go_iconst (v := 3) X d_Law_law_510 ?_
  refine go_iadd X d_Law_law_511 ?_
  refine go_scr X Z (by omega) (by omega) d_Law_law_512 ?_
  refine go_i2l X d_Law_law_513 (by have := hSr (i + 3); omega) ?_
  refine go_ldc2 (x := 4294967295) X w_kl_Law_72 (by decide) d_Law_law_514 ?_
  refine go_land (z := lan_ (scr_ xs (i + 3)) 4294967295) X d_Law_law_517 (Int64.ofInt_toInt _).symm ?_
  refine go_lor (z := lor_ (lsh_ (scr_ xs (i + 2)) 32) (lan_ (scr_ xs (i + 3)) 4294967295)) X d_Law_law_518 (Int64.ofInt_toInt _).symm ?_
  refine go_top (v' := vl (u64 (lor_ (lsh_ (scr_ xs (i + 2)) 32) (lan_ (scr_ xs (i + 3)) 4294967295)))) X (u64_vl _) ?_
  refine go_aload_n X d_Law_law_519 rfl rfl ?_
  refine go_iload X d_Law_law_520 rfl ?_
  refine go_iconst (v := 4) X d_Law_law_522 ?_
  refine go_iadd X d_Law_law_523 ?_
  refine go_scr X Z (by omega) (by omega) d_Law_law_524 ?_
  refine go_aload_n X d_Law_law_525 rfl rfl ?_
  refine go_callSW (r := []) (np := 5) X YY lw_field_c lw_ini (by decide +kernel) lw_field_l lw_field_s (h_field l hl D hcf.1 hcf.2.2.2.2.2.1 (hSr _) rfl hq (by omega)) rfl rfl (by omega) (by decide) (by omega) (by omega) (Nat.le_of_ble_eq_true rfl) d_Law_law_526 (fun v' sh' M1 sz1 hp => ?_)
  obtain ⟨kc, vv, hkc, hvv, hkr, e1, e2, hval, hsz, f1⟩ := hp
  subst e1
  rw [e2]
  show Go g (k + 1) (n + 6) sh M1 sz1 529 [(4, vi i), (3, vr (o + 276)), (2, vr (o + 247)), (1, vr o), (0, vr (b : Int))] [vi kc]
  have hmk := hmk0.mv (sh' := sh) (M' := M1) (fun z h1 h2 => ⟨rfl, f1 z (by show ¬ ((o + 1 ≤ z ∧ z ≤ o + 246) ∨ z = o + 276); omega)⟩)
  refine go_istore (lv' := [(5, vi kc), (4, vi i), (3, vr (o + 276)), (2, vr (o + 247)), (1, vr o), (0, vr (b : Int))]) X d_Law_law_529 (by decide) rfl ?_
  refine go_aload_n X d_Law_law_531 rfl rfl ?_
  refine go_aload_n X d_Law_law_532 rfl rfl ?_
  refine go_iload X d_Law_law_533 rfl ?_
  refine go_iconst (v := 1) X d_Law_law_535 ?_
  refine go_iadd X d_Law_law_536 ?_
  refine go_scr X Z (by omega) (by omega) d_Law_law_537 ?_
  refine go_aload_n X d_Law_law_538 rfl rfl ?_
  refine go_iload X d_Law_law_539 rfl ?_
  refine go_iconst (v := 2) X d_Law_law_541 ?_
  refine go_iadd X d_Law_law_542 ?_
  refine go_scr X Z (by omega) (by omega) d_Law_law_543 ?_
  refine go_i2l X d_Law_law_544 (by have := hSr (i + 2); omega) ?_
  refine go_bipush (v := 32) X d_Law_law_545 (by decide) ?_
  refine go_lshl (z := lsh_ (scr_ xs (i + 2)) 32) X d_Law_law_547 (Int64.ofInt_toInt _).symm ?_
  refine go_aload_n X d_Law_law_548 rfl rfl ?_
  refine go_iload X d_Law_law_549 rfl ?_
  refine go_iconst (v := 3) X d_Law_law_551 ?_
  refine go_iadd X d_Law_law_552 ?_
  refine go_scr X Z (by omega) (by omega) d_Law_law_553 ?_
  refine go_i2l X d_Law_law_554 (by have := hSr (i + 3); omega) ?_
  refine go_ldc2 (x := 4294967295) X w_kl_Law_72 (by decide) d_Law_law_555 ?_
  refine go_land (z := lan_ (scr_ xs (i + 3)) 4294967295) X d_Law_law_558 (Int64.ofInt_toInt _).symm ?_
  refine go_lor (z := lor_ (lsh_ (scr_ xs (i + 2)) 32) (lan_ (scr_ xs (i + 3)) 4294967295)) X d_Law_law_559 (Int64.ofInt_toInt _).symm ?_
  refine go_top (v' := vl (u64 (lor_ (lsh_ (scr_ xs (i + 2)) 32) (lan_ (scr_ xs (i + 3)) 4294967295)))) X (u64_vl _) ?_
  refine go_aload_n X d_Law_law_560 rfl rfl ?_
  refine go_iload X d_Law_law_561 rfl ?_
  refine go_iconst (v := 4) X d_Law_law_563 ?_
  refine go_iadd X d_Law_law_564 ?_
  refine go_scr X Z (by omega) (by omega) d_Law_law_565 ?_
  refine go_cV (st2 := []) (r := []) X k_Law_115 (m_field0 l D hmk.mds (hSr _) (hmk.zero (f := 15) (by decide) (by decide))) hmk.1 rfl rfl (by omega) (Nat.le_of_ble_eq_true rfl) d_Law_law_566 (by omega) (by omega) (fun v' sh' M2 sz2 hp => ?_)
  obtain ⟨bb, e4, hb, hbr, e5, e6, hthr, hmd, f2⟩ := hp
  subst e4
  rw [e5, e6]
  show Go g (k + 1) (n + 6) sh M2 (sz1) 569 [(5, vi kc), (4, vi i), (3, vr (o + 276)), (2, vr (o + 247)), (1, vr o), (0, vr (b : Int))] [vi bb]
  have hthr2 : M2 (o + 247) 0 = kc := hthr.trans hkc.symm
  have hb2 : kc = 0 → bb = vv := fun q => (hb (hkc.symm.trans q)).trans hvv.symm
  have hval2 : kc = 0 → M2 (o + 276) 0 = vv ∧ rL vv := fun q => ⟨(congrFun (f2 (o + 276) (by omega)) _).trans (hval q).1, (hval q).2⟩
  refine go_istore (lv' := [(6, vi bb), (5, vi kc), (4, vi i), (3, vr (o + 276)), (2, vr (o + 247)), (1, vr o), (0, vr (b : Int))]) X d_Law_law_569 (by decide) rfl ?_
  refine go_aload_n X d_Law_law_571 rfl rfl ?_
  refine go_cVf (st2 := [vi kc]) (r := []) X k_Law_80 (m_thrown l D hmd.1 hthr2) hmk0.1 rfl rfl (by omega) (Nat.le_of_ble_eq_true rfl) d_Law_law_572 (by omega) (by omega) rfl ?_
  refine go_iload X d_Law_law_575 rfl ?_
  refine go_icmp_eq (tgt := 582) X d_Law_law_577 rfl (by omega) (by omega) (fun _ => ?_) (fun h9 => absurd (show kc = kc by omega) h9)
  refine go_iload X d_Law_law_582 rfl ?_
  refine go_if_ne (tgt := 599) X d_Law_law_584 rfl (by omega) (fun hq1 => ?_) (fun hq1 => ?_)
  · skip
    refine go_goto (tgt := 1224) X d_Law_law_599 rfl ?_
    refine go_lv (lv' := [(4, vi i), (3, vr (o + 276)), (2, vr (o + 247)), (1, vr o), (0, vr (b : Int))]) X [2, 3, 4, 5, 6] rfl ?_
    exact kont _ _ M2 _ (by omega) (by omega)
  · skip
    obtain ⟨hv1, hv2⟩ := hval2 hq1
    have hb3 := hb2 hq1
    refine go_aload_n X d_Law_law_587 rfl rfl ?_
    refine go_iconst (v := 0) X d_Law_law_588 ?_
    refine go_lald X hq (by omega) (by omega) d_Law_law_589 ?_
    refine go_top (v' := vl vv) X (by rw [hv1]) ?_
    refine go_iload X d_Law_law_590 rfl ?_
    refine go_i2l X d_Law_law_592 (by omega) ?_
    refine go_lcmp X (by omega) (by omega) d_Law_law_593 ?_
    refine go_top (v' := vi 0) X (by rw [show vv = bb by omega, s_cmp_self]) ?_
    refine go_if_eq (tgt := 599) X d_Law_law_594 rfl (by omega) (fun _ => ?_) (fun h9 => absurd h9 (by decide))
    refine go_goto (tgt := 1224) X d_Law_law_599 rfl ?_
    refine go_lv (lv' := [(4, vi i), (3, vr (o + 276)), (2, vr (o + 247)), (1, vr o), (0, vr (b : Int))]) X [2, 3, 4, 5, 6] rfl ?_
    exact kont _ _ M2 _ (by omega) (by omega)
set_option maxHeartbeats 4000000 in
set_option maxRecDepth 100000 in
theorem lw_define {l : Launch} (hl : l.stackTraces = false) {D : va_G} {nm : String} {d mc ms : Nat} {sh0 : s_S} {sz0 : Int} {Po : s_Po} {g : g_X} {k n : Nat} (X : Cx l D code "CiteForgeLaw" nm 8 ret d mc ms sh0 sz0 Po g) {hh : List (Nat × Nat × Nat × Nat)} (YY : y_C sh0 sz0 hh g) (hd0 : 20 ≤ d) (hk0 : k + 1 ≤ mc) (hn0 : n + 6 ≤ ms) {sh : s_S} {M : s_M} {o i : Int} {b N : Nat} {xs : Nat → Int32} (Z : z_C b N xs g) (hcf : cf0 sh M o) (hmk0 : mks sh M (o + 247) mL) (hq : sh (o + 276) = some (.inr (.long, 1))) (hi : 0 ≤ i ∧ i + 5 ≤ N) (hN : N ≤ 100000) (kont : ∀ (k' n' : Nat) (M' : s_M) (sz' : Int), k' ≤ k + 1 → n' ≤ n + 6 → Go g k' n' sh M' sz' 1224 [(4, vi i), (3, vr (o + 276)), (2, vr (o + 247)), (1, vr o), (0, vr (b : Int))] []) : Go g k n sh M (o + 277) 602 [(4, vi i), (3, vr (o + 276)), (2, vr (o + 247)), (1, vr o), (0, vr (b : Int))] [] := by
  have hSr := scr_rng xs
  refine go_aload_n X d_Law_law_602 rfl rfl ?_
  refine go_aload_n X d_Law_law_603 rfl rfl ?_
  refine go_iload X d_Law_law_604 rfl ?_
  refine go_iconst (v := 1) X d_Law_law_606 ?_
  refine go_iadd X d_Law_law_607 ?_
  refine go_scr X Z (by omega) (by omega) d_Law_law_608 ?_
  refine go_aload_n X d_Law_law_609 rfl rfl ?_
  refine go_iload X d_Law_law_610 rfl ?_
  refine go_iconst (v := 2) X d_Law_law_612 ?_
  refine go_iadd X d_Law_law_613 ?_
  refine go_scr X Z (by omega) (by omega) d_Law_law_614 ?_
  refine go_aload_n X d_Law_law_615 rfl rfl ?_
  refine go_iload X d_Law_law_616 rfl ?_
  refine go_iconst (v := 3) X d_Law_law_618 ?_
  refine go_iadd X d_Law_law_619 ?_
  refine go_scr X Z (by omega) (by omega) d_Law_law_620 ?_
  refine go_i2l X d_Law_law_621 (by have := hSr (i + 3); omega) ?_
  refine go_bipush (v := 32) X d_Law_law_622 (by decide) ?_
  refine go_lshl (z := lsh_ (scr_ xs (i + 3)) 32) X d_Law_law_624 (Int64.ofInt_toInt _).symm ?_
  refine go_aload_n X d_Law_law_625 rfl rfl ?_
  refine go_iload X d_Law_law_626 rfl ?_
  refine go_iconst (v := 4) X d_Law_law_628 ?_
  refine go_iadd X d_Law_law_629 ?_
  refine go_scr X Z (by omega) (by omega) d_Law_law_630 ?_
  refine go_i2l X d_Law_law_631 (by have := hSr (i + 4); omega) ?_
  refine go_ldc2 (x := 4294967295) X w_kl_Law_72 (by decide) d_Law_law_632 ?_
  refine go_land (z := lan_ (scr_ xs (i + 4)) 4294967295) X d_Law_law_635 (Int64.ofInt_toInt _).symm ?_
  refine go_lor (z := lor_ (lsh_ (scr_ xs (i + 3)) 32) (lan_ (scr_ xs (i + 4)) 4294967295)) X d_Law_law_636 (Int64.ofInt_toInt _).symm ?_
  refine go_aload_n X d_Law_law_637 rfl rfl ?_
  refine go_callSW (r := []) (np := 5) X YY lw_define_c lw_ini (by decide +kernel) lw_define_l lw_define_s (h_define l hl D hcf.1 hcf.2.2.2.2.2.2.2.2 (hSr _) (hSr _) (lor_rng _ _) (fun _ _ _ => (by decide : 0 ≤ (0 : Int) ∧ (0 : Int) ≤ 24)) hq (by omega)) rfl rfl (by omega) (by decide) (by omega) (by omega) (Nat.le_of_ble_eq_true rfl) d_Law_law_638 (fun v' sh' M1 sz1 hp => ?_)
  obtain ⟨kc, vv, hkc, hvv, hkr, e1, e2, hval, hsz, f1⟩ := hp
  subst e1
  rw [e2]
  show Go g (k + 1) (n + 6) sh M1 sz1 641 [(4, vi i), (3, vr (o + 276)), (2, vr (o + 247)), (1, vr o), (0, vr (b : Int))] [vi kc]
  have hmk := hmk0.mv (sh' := sh) (M' := M1) (fun z h1 h2 => ⟨rfl, f1 z (by show ¬ ((o + 1 ≤ z ∧ z ≤ o + 246) ∨ z = o + 276); omega)⟩)
  refine go_istore (lv' := [(5, vi kc), (4, vi i), (3, vr (o + 276)), (2, vr (o + 247)), (1, vr o), (0, vr (b : Int))]) X d_Law_law_641 (by decide) rfl ?_
  refine go_aload_n X d_Law_law_643 rfl rfl ?_
  refine go_aload_n X d_Law_law_644 rfl rfl ?_
  refine go_iload X d_Law_law_645 rfl ?_
  refine go_iconst (v := 1) X d_Law_law_647 ?_
  refine go_iadd X d_Law_law_648 ?_
  refine go_scr X Z (by omega) (by omega) d_Law_law_649 ?_
  refine go_aload_n X d_Law_law_650 rfl rfl ?_
  refine go_iload X d_Law_law_651 rfl ?_
  refine go_iconst (v := 2) X d_Law_law_653 ?_
  refine go_iadd X d_Law_law_654 ?_
  refine go_scr X Z (by omega) (by omega) d_Law_law_655 ?_
  refine go_aload_n X d_Law_law_656 rfl rfl ?_
  refine go_iload X d_Law_law_657 rfl ?_
  refine go_iconst (v := 3) X d_Law_law_659 ?_
  refine go_iadd X d_Law_law_660 ?_
  refine go_scr X Z (by omega) (by omega) d_Law_law_661 ?_
  refine go_i2l X d_Law_law_662 (by have := hSr (i + 3); omega) ?_
  refine go_bipush (v := 32) X d_Law_law_663 (by decide) ?_
  refine go_lshl (z := lsh_ (scr_ xs (i + 3)) 32) X d_Law_law_665 (Int64.ofInt_toInt _).symm ?_
  refine go_aload_n X d_Law_law_666 rfl rfl ?_
  refine go_iload X d_Law_law_667 rfl ?_
  refine go_iconst (v := 4) X d_Law_law_669 ?_
  refine go_iadd X d_Law_law_670 ?_
  refine go_scr X Z (by omega) (by omega) d_Law_law_671 ?_
  refine go_i2l X d_Law_law_672 (by have := hSr (i + 4); omega) ?_
  refine go_ldc2 (x := 4294967295) X w_kl_Law_72 (by decide) d_Law_law_673 ?_
  refine go_land (z := lan_ (scr_ xs (i + 4)) 4294967295) X d_Law_law_676 (Int64.ofInt_toInt _).symm ?_
  refine go_lor (z := lor_ (lsh_ (scr_ xs (i + 3)) 32) (lan_ (scr_ xs (i + 4)) 4294967295)) X d_Law_law_677 (Int64.ofInt_toInt _).symm ?_
  refine go_cV (st2 := []) (r := []) X k_Law_119 (m_define l D hmk.mds (hSr _) (hSr _) (lor_rng _ _) (fun _ _ _ => (by decide : 0 ≤ (0 : Int) ∧ (0 : Int) ≤ 24)) ((hmk.2.2.1 11 _ rfl).2.2.1)) hmk.1 rfl rfl (by omega) (Nat.le_of_ble_eq_true rfl) d_Law_law_678 (by omega) (by omega) (fun v' sh' M2 sz2 hp => ?_)
  obtain ⟨bb, e4, hb, hbr, e5, e6, hthr, hmd, f2⟩ := hp
  subst e4
  rw [e5, e6]
  show Go g (k + 1) (n + 6) sh M2 (sz1) 681 [(5, vi kc), (4, vi i), (3, vr (o + 276)), (2, vr (o + 247)), (1, vr o), (0, vr (b : Int))] [vi bb]
  have hthr2 : M2 (o + 247) 0 = kc := hthr.trans hkc.symm
  have hb2 : kc = 0 → bb = vv := fun q => (hb (hkc.symm.trans q)).trans hvv.symm
  have hval2 : kc = 0 → M2 (o + 276) 0 = vv ∧ rL vv := fun q => ⟨(congrFun (f2 (o + 276) (by omega)) _).trans (hval q).1, (hval q).2⟩
  refine go_istore (lv' := [(6, vi bb), (5, vi kc), (4, vi i), (3, vr (o + 276)), (2, vr (o + 247)), (1, vr o), (0, vr (b : Int))]) X d_Law_law_681 (by decide) rfl ?_
  refine go_aload_n X d_Law_law_683 rfl rfl ?_
  refine go_cVf (st2 := [vi kc]) (r := []) X k_Law_80 (m_thrown l D hmd.1 hthr2) hmk0.1 rfl rfl (by omega) (Nat.le_of_ble_eq_true rfl) d_Law_law_684 (by omega) (by omega) rfl ?_
  refine go_iload X d_Law_law_687 rfl ?_
  refine go_icmp_eq (tgt := 694) X d_Law_law_689 rfl (by omega) (by omega) (fun _ => ?_) (fun h9 => absurd (show kc = kc by omega) h9)
  refine go_iload X d_Law_law_694 rfl ?_
  refine go_if_ne (tgt := 711) X d_Law_law_696 rfl (by omega) (fun hq1 => ?_) (fun hq1 => ?_)
  · skip
    refine go_goto (tgt := 1224) X d_Law_law_711 rfl ?_
    refine go_lv (lv' := [(4, vi i), (3, vr (o + 276)), (2, vr (o + 247)), (1, vr o), (0, vr (b : Int))]) X [2, 3, 4, 5, 6] rfl ?_
    exact kont _ _ M2 _ (by omega) (by omega)
  · skip
    obtain ⟨hv1, hv2⟩ := hval2 hq1
    have hb3 := hb2 hq1
    refine go_aload_n X d_Law_law_699 rfl rfl ?_
    refine go_iconst (v := 0) X d_Law_law_700 ?_
    refine go_lald X hq (by omega) (by omega) d_Law_law_701 ?_
    refine go_top (v' := vl vv) X (by rw [hv1]) ?_
    refine go_iload X d_Law_law_702 rfl ?_
    refine go_i2l X d_Law_law_704 (by omega) ?_
    refine go_lcmp X (by omega) (by omega) d_Law_law_705 ?_
    refine go_top (v' := vi 0) X (by rw [show vv = bb by omega, s_cmp_self]) ?_
    refine go_if_eq (tgt := 711) X d_Law_law_706 rfl (by omega) (fun _ => ?_) (fun h9 => absurd h9 (by decide))
    refine go_goto (tgt := 1224) X d_Law_law_711 rfl ?_
    refine go_lv (lv' := [(4, vi i), (3, vr (o + 276)), (2, vr (o + 247)), (1, vr o), (0, vr (b : Int))]) X [2, 3, 4, 5, 6] rfl ?_
    exact kont _ _ M2 _ (by omega) (by omega)
set_option maxHeartbeats 4000000 in
set_option maxRecDepth 100000 in
theorem lw_clear {l : Launch} (hl : l.stackTraces = false) {D : va_G} {nm : String} {d mc ms : Nat} {sh0 : s_S} {sz0 : Int} {Po : s_Po} {g : g_X} {k n : Nat} (X : Cx l D code "CiteForgeLaw" nm 8 ret d mc ms sh0 sz0 Po g) {hh : List (Nat × Nat × Nat × Nat)} (YY : y_C sh0 sz0 hh g) (hd0 : 20 ≤ d) (hk0 : k + 1 ≤ mc) (hn0 : n + 6 ≤ ms) {sh : s_S} {M : s_M} {o i : Int} {b N : Nat} {xs : Nat → Int32} (Z : z_C b N xs g) (hcf : cf0 sh M o) (hmk0 : mks sh M (o + 247) mL) (hq : sh (o + 276) = some (.inr (.long, 1))) (hi : 0 ≤ i ∧ i + 5 ≤ N) (hN : N ≤ 100000) (kont : ∀ (k' n' : Nat) (M' : s_M) (sz' : Int), k' ≤ k + 1 → n' ≤ n + 6 → Go g k' n' sh M' sz' 1224 [(4, vi i), (3, vr (o + 276)), (2, vr (o + 247)), (1, vr o), (0, vr (b : Int))] []) : Go g k n sh M (o + 277) 714 [(4, vi i), (3, vr (o + 276)), (2, vr (o + 247)), (1, vr o), (0, vr (b : Int))] [] := by
  have hSr := scr_rng xs
  refine go_aload_n X d_Law_law_714 rfl rfl ?_
  refine go_aload_n X d_Law_law_715 rfl rfl ?_
  refine go_iload X d_Law_law_716 rfl ?_
  refine go_iconst (v := 1) X d_Law_law_718 ?_
  refine go_iadd X d_Law_law_719 ?_
  refine go_scr X Z (by omega) (by omega) d_Law_law_720 ?_
  refine go_aload_n X d_Law_law_721 rfl rfl ?_
  refine go_callSW (r := []) (np := 3) X YY lw_clear_c lw_ini (by decide +kernel) lw_clear_l lw_clear_s (h_clear l hl D hcf.1 hcf.2.2.2.2.2.2.2.2 (hSr _) (fun _ _ _ => (by decide : 0 ≤ (0 : Int) ∧ (0 : Int) ≤ 24)) hq (by omega)) rfl rfl (by omega) (by decide) (by omega) (by omega) (Nat.le_of_ble_eq_true rfl) d_Law_law_722 (fun v' sh' M1 sz1 hp => ?_)
  obtain ⟨kc, vv, hkc, hvv, hkr, e1, e2, hval, hsz, f1⟩ := hp
  subst e1
  rw [e2]
  show Go g (k + 1) (n + 6) sh M1 sz1 725 [(4, vi i), (3, vr (o + 276)), (2, vr (o + 247)), (1, vr o), (0, vr (b : Int))] [vi kc]
  have hmk := hmk0.mv (sh' := sh) (M' := M1) (fun z h1 h2 => ⟨rfl, f1 z (by show ¬ ((o + 1 ≤ z ∧ z ≤ o + 246) ∨ z = o + 276); omega)⟩)
  refine go_istore (lv' := [(5, vi kc), (4, vi i), (3, vr (o + 276)), (2, vr (o + 247)), (1, vr o), (0, vr (b : Int))]) X d_Law_law_725 (by decide) rfl ?_
  refine go_aload_n X d_Law_law_727 rfl rfl ?_
  refine go_aload_n X d_Law_law_728 rfl rfl ?_
  refine go_iload X d_Law_law_729 rfl ?_
  refine go_iconst (v := 1) X d_Law_law_731 ?_
  refine go_iadd X d_Law_law_732 ?_
  refine go_scr X Z (by omega) (by omega) d_Law_law_733 ?_
  refine go_cV (st2 := []) (r := []) X k_Law_122 (m_clear l D hmk.mds (hSr _) (fun _ _ _ => (by decide : 0 ≤ (0 : Int) ∧ (0 : Int) ≤ 24)) ((hmk.2.2.1 11 _ rfl).2.2.1)) hmk.1 rfl rfl (by omega) (Nat.le_of_ble_eq_true rfl) d_Law_law_734 (by omega) (by omega) (fun v' sh' M2 sz2 hp => ?_)
  obtain ⟨bb, e4, hb, hbr, e5, e6, hthr, hmd, f2⟩ := hp
  subst e4
  rw [e5, e6]
  show Go g (k + 1) (n + 6) sh M2 (sz1) 737 [(5, vi kc), (4, vi i), (3, vr (o + 276)), (2, vr (o + 247)), (1, vr o), (0, vr (b : Int))] [vi bb]
  have hthr2 : M2 (o + 247) 0 = kc := hthr.trans hkc.symm
  have hb2 : kc = 0 → bb = vv := fun q => (hb (hkc.symm.trans q)).trans hvv.symm
  have hval2 : kc = 0 → M2 (o + 276) 0 = vv ∧ rL vv := fun q => ⟨(congrFun (f2 (o + 276) (by omega)) _).trans (hval q).1, (hval q).2⟩
  refine go_istore (lv' := [(6, vi bb), (5, vi kc), (4, vi i), (3, vr (o + 276)), (2, vr (o + 247)), (1, vr o), (0, vr (b : Int))]) X d_Law_law_737 (by decide) rfl ?_
  refine go_aload_n X d_Law_law_739 rfl rfl ?_
  refine go_cVf (st2 := [vi kc]) (r := []) X k_Law_80 (m_thrown l D hmd.1 hthr2) hmk0.1 rfl rfl (by omega) (Nat.le_of_ble_eq_true rfl) d_Law_law_740 (by omega) (by omega) rfl ?_
  refine go_iload X d_Law_law_743 rfl ?_
  refine go_icmp_eq (tgt := 750) X d_Law_law_745 rfl (by omega) (by omega) (fun _ => ?_) (fun h9 => absurd (show kc = kc by omega) h9)
  refine go_iload X d_Law_law_750 rfl ?_
  refine go_if_ne (tgt := 767) X d_Law_law_752 rfl (by omega) (fun hq1 => ?_) (fun hq1 => ?_)
  · skip
    refine go_goto (tgt := 1224) X d_Law_law_767 rfl ?_
    refine go_lv (lv' := [(4, vi i), (3, vr (o + 276)), (2, vr (o + 247)), (1, vr o), (0, vr (b : Int))]) X [2, 3, 4, 5, 6] rfl ?_
    exact kont _ _ M2 _ (by omega) (by omega)
  · skip
    obtain ⟨hv1, hv2⟩ := hval2 hq1
    have hb3 := hb2 hq1
    refine go_aload_n X d_Law_law_755 rfl rfl ?_
    refine go_iconst (v := 0) X d_Law_law_756 ?_
    refine go_lald X hq (by omega) (by omega) d_Law_law_757 ?_
    refine go_top (v' := vl vv) X (by rw [hv1]) ?_
    refine go_iload X d_Law_law_758 rfl ?_
    refine go_i2l X d_Law_law_760 (by omega) ?_
    refine go_lcmp X (by omega) (by omega) d_Law_law_761 ?_
    refine go_top (v' := vi 0) X (by rw [show vv = bb by omega, s_cmp_self]) ?_
    refine go_if_eq (tgt := 767) X d_Law_law_762 rfl (by omega) (fun _ => ?_) (fun h9 => absurd h9 (by decide))
    refine go_goto (tgt := 1224) X d_Law_law_767 rfl ?_
    refine go_lv (lv' := [(4, vi i), (3, vr (o + 276)), (2, vr (o + 247)), (1, vr o), (0, vr (b : Int))]) X [2, 3, 4, 5, 6] rfl ?_
    exact kont _ _ M2 _ (by omega) (by omega)
set_option maxHeartbeats 4000000 in
set_option maxRecDepth 100000 in
theorem lw_run {l : Launch} (hl : l.stackTraces = false) {D : va_G} {nm : String} {d mc ms : Nat} {sh0 : s_S} {sz0 : Int} {Po : s_Po} {g : g_X} {k n : Nat} (X : Cx l D code "CiteForgeLaw" nm 8 ret d mc ms sh0 sz0 Po g) {hh : List (Nat × Nat × Nat × Nat)} (YY : y_C sh0 sz0 hh g) (hd0 : 20 ≤ d) (hk0 : k + 1 ≤ mc) (hn0 : n + 6 ≤ ms) {sh : s_S} {M : s_M} {o i : Int} {b N : Nat} {xs : Nat → Int32} (Z : z_C b N xs g) (hcf : cf0 sh M o) (hmk0 : mks sh M (o + 247) mL) (hq : sh (o + 276) = some (.inr (.long, 1))) (hi : 0 ≤ i ∧ i + 5 ≤ N) (hN : N ≤ 100000) (kont : ∀ (k' n' : Nat) (M' : s_M) (sz' : Int), k' ≤ k + 1 → n' ≤ n + 6 → Go g k' n' sh M' sz' 1224 [(4, vi i), (3, vr (o + 276)), (2, vr (o + 247)), (1, vr o), (0, vr (b : Int))] []) : Go g k n sh M (o + 277) 770 [(4, vi i), (3, vr (o + 276)), (2, vr (o + 247)), (1, vr o), (0, vr (b : Int))] [] := by
  have hSr := scr_rng xs
  refine go_aload_n X d_Law_law_770 rfl rfl ?_
  refine go_aload_n X d_Law_law_771 rfl rfl ?_
  refine go_iload X d_Law_law_772 rfl ?_
  refine go_iconst (v := 1) X d_Law_law_774 ?_
  refine go_iadd X d_Law_law_775 ?_
  refine go_scr X Z (by omega) (by omega) d_Law_law_776 ?_
  refine go_aload_n X d_Law_law_777 rfl rfl ?_
  refine go_iload X d_Law_law_778 rfl ?_
  refine go_iconst (v := 2) X d_Law_law_780 ?_
  refine go_iadd X d_Law_law_781 ?_
  refine go_scr X Z (by omega) (by omega) d_Law_law_782 ?_
  refine go_aload_n X d_Law_law_783 rfl rfl ?_
  refine go_callSW (r := []) (np := 4) X YY lw_run_c lw_ini (by decide +kernel) lw_run_l lw_run_s (h_run l hl D hcf.1 hcf.2.2.2.2.2.1 hcf.2.2.2.2.2.2.2.2 (hSr _) (hSr _) rfl (fun _ => rfl) hq (by omega)) rfl rfl (by omega) (by decide) (by omega) (by omega) (Nat.le_of_ble_eq_true rfl) d_Law_law_784 (fun v' sh' M1 sz1 hp => ?_)
  obtain ⟨kc, vv, hkc, hvv, hkr, e1, e2, hval, hsz, f1⟩ := hp
  subst e1
  rw [e2]
  show Go g (k + 1) (n + 6) sh M1 sz1 787 [(4, vi i), (3, vr (o + 276)), (2, vr (o + 247)), (1, vr o), (0, vr (b : Int))] [vi kc]
  have hmk := hmk0.mv (sh' := sh) (M' := M1) (fun z h1 h2 => ⟨rfl, f1 z (by show ¬ ((o + 1 ≤ z ∧ z ≤ o + 246) ∨ z = o + 276); omega)⟩)
  refine go_istore (lv' := [(5, vi kc), (4, vi i), (3, vr (o + 276)), (2, vr (o + 247)), (1, vr o), (0, vr (b : Int))]) X d_Law_law_787 (by decide) rfl ?_
  refine go_aload_n X d_Law_law_789 rfl rfl ?_
  refine go_aload_n X d_Law_law_790 rfl rfl ?_
  refine go_iload X d_Law_law_791 rfl ?_
  refine go_iconst (v := 1) X d_Law_law_793 ?_
  refine go_iadd X d_Law_law_794 ?_
  refine go_scr X Z (by omega) (by omega) d_Law_law_795 ?_
  refine go_aload_n X d_Law_law_796 rfl rfl ?_
  refine go_iload X d_Law_law_797 rfl ?_
  refine go_iconst (v := 2) X d_Law_law_799 ?_
  refine go_iadd X d_Law_law_800 ?_
  refine go_scr X Z (by omega) (by omega) d_Law_law_801 ?_
  refine go_cV (st2 := []) (r := []) X k_Law_126 (m_run0 l D hmk.mds (hSr _) (hSr _) (Z := fun _ => 0) (fun _ => rfl) (hmk.zero (f := 15) (by decide) (by decide)) ((hmk.2.2.1 11 _ rfl).2.2.1)) hmk.1 rfl rfl (by omega) (Nat.le_of_ble_eq_true rfl) d_Law_law_802 (by omega) (by omega) (fun v' sh' M2 sz2 hp => ?_)
  obtain ⟨bb, e4, hb, hbr, e5, e6, hthr, hmd, f2⟩ := hp
  subst e4
  rw [e5, e6]
  show Go g (k + 1) (n + 6) sh M2 (sz1) 805 [(5, vi kc), (4, vi i), (3, vr (o + 276)), (2, vr (o + 247)), (1, vr o), (0, vr (b : Int))] [vi bb]
  have hthr2 : M2 (o + 247) 0 = kc := hthr.trans hkc.symm
  have hb2 : kc = 0 → bb = vv := fun q => (hb (hkc.symm.trans q)).trans hvv.symm
  have hval2 : kc = 0 → M2 (o + 276) 0 = vv ∧ rL vv := fun q => ⟨(congrFun (f2 (o + 276) (by omega)) _).trans (hval q).1, (hval q).2⟩
  refine go_istore (lv' := [(6, vi bb), (5, vi kc), (4, vi i), (3, vr (o + 276)), (2, vr (o + 247)), (1, vr o), (0, vr (b : Int))]) X d_Law_law_805 (by decide) rfl ?_
  refine go_aload_n X d_Law_law_807 rfl rfl ?_
  refine go_cVf (st2 := [vi kc]) (r := []) X k_Law_80 (m_thrown l D hmd.1 hthr2) hmk0.1 rfl rfl (by omega) (Nat.le_of_ble_eq_true rfl) d_Law_law_808 (by omega) (by omega) rfl ?_
  refine go_iload X d_Law_law_811 rfl ?_
  refine go_icmp_eq (tgt := 818) X d_Law_law_813 rfl (by omega) (by omega) (fun _ => ?_) (fun h9 => absurd (show kc = kc by omega) h9)
  refine go_iload X d_Law_law_818 rfl ?_
  refine go_if_ne (tgt := 835) X d_Law_law_820 rfl (by omega) (fun hq1 => ?_) (fun hq1 => ?_)
  · skip
    refine go_goto (tgt := 1224) X d_Law_law_835 rfl ?_
    refine go_lv (lv' := [(4, vi i), (3, vr (o + 276)), (2, vr (o + 247)), (1, vr o), (0, vr (b : Int))]) X [2, 3, 4, 5, 6] rfl ?_
    exact kont _ _ M2 _ (by omega) (by omega)
  · skip
    obtain ⟨hv1, hv2⟩ := hval2 hq1
    have hb3 := hb2 hq1
    refine go_aload_n X d_Law_law_823 rfl rfl ?_
    refine go_iconst (v := 0) X d_Law_law_824 ?_
    refine go_lald X hq (by omega) (by omega) d_Law_law_825 ?_
    refine go_top (v' := vl vv) X (by rw [hv1]) ?_
    refine go_iload X d_Law_law_826 rfl ?_
    refine go_i2l X d_Law_law_828 (by omega) ?_
    refine go_lcmp X (by omega) (by omega) d_Law_law_829 ?_
    refine go_top (v' := vi 0) X (by rw [show vv = bb by omega, s_cmp_self]) ?_
    refine go_if_eq (tgt := 835) X d_Law_law_830 rfl (by omega) (fun _ => ?_) (fun h9 => absurd h9 (by decide))
    refine go_goto (tgt := 1224) X d_Law_law_835 rfl ?_
    refine go_lv (lv' := [(4, vi i), (3, vr (o + 276)), (2, vr (o + 247)), (1, vr o), (0, vr (b : Int))]) X [2, 3, 4, 5, 6] rfl ?_
    exact kont _ _ M2 _ (by omega) (by omega)
set_option maxHeartbeats 4000000 in
set_option maxRecDepth 100000 in
theorem lw_depth {l : Launch} (hl : l.stackTraces = false) {D : va_G} {nm : String} {d mc ms : Nat} {sh0 : s_S} {sz0 : Int} {Po : s_Po} {g : g_X} {k n : Nat} (X : Cx l D code "CiteForgeLaw" nm 8 ret d mc ms sh0 sz0 Po g) {hh : List (Nat × Nat × Nat × Nat)} (YY : y_C sh0 sz0 hh g) (hd0 : 20 ≤ d) (hk0 : k + 1 ≤ mc) (hn0 : n + 6 ≤ ms) {sh : s_S} {M : s_M} {o i : Int} {b N : Nat} {xs : Nat → Int32} (Z : z_C b N xs g) (hcf : cf0 sh M o) (hmk0 : mks sh M (o + 247) mL) (hq : sh (o + 276) = some (.inr (.long, 1))) (hi : 0 ≤ i ∧ i + 5 ≤ N) (hN : N ≤ 100000) (kont : ∀ (k' n' : Nat) (M' : s_M) (sz' : Int), k' ≤ k + 1 → n' ≤ n + 6 → Go g k' n' sh M' sz' 1224 [(4, vi i), (3, vr (o + 276)), (2, vr (o + 247)), (1, vr o), (0, vr (b : Int))] []) : Go g k n sh M (o + 277) 838 [(4, vi i), (3, vr (o + 276)), (2, vr (o + 247)), (1, vr o), (0, vr (b : Int))] [] := by
  have hSr := scr_rng xs
  refine go_aload_n X d_Law_law_838 rfl rfl ?_
  refine go_cV (st2 := []) (r := []) X k_Law_127 (f_depth l D hcf.1 hcf.2.2.2.2.2.2.1 hcf.2.1 hcf.2.2.1 ) hcf.1.1 rfl rfl (by omega) (Nat.le_of_ble_eq_true rfl) d_Law_law_839 (by omega) (by omega) (fun v' sh' M1 sz1 hp => ?_)
  obtain ⟨e1, e2, e3, f1⟩ := hp
  subst e1
  rw [e2, e3]
  show Go g k n sh M1 (o + 277) 842 [(4, vi i), (3, vr (o + 276)), (2, vr (o + 247)), (1, vr o), (0, vr (b : Int))] [vi 0]
  have hmk := hmk0.mv (sh' := sh) (M' := M1) (fun z h1 h2 => ⟨rfl, f1 z (by show ¬ (o + 1 ≤ z ∧ z ≤ o + 246); omega)⟩)
  refine go_aload_n X d_Law_law_842 rfl rfl ?_
  refine go_cV (st2 := []) (r := [vi 0]) X k_Law_130 (m_depth l D hmk.mds (by decide) (hmk.zero (f := 26) (by decide) (by decide))) hmk.1 rfl rfl (by omega) (Nat.le_of_ble_eq_true rfl) d_Law_law_843 (by omega) (by omega) (fun v' sh' M2 sz2 hp => ?_)
  obtain ⟨bb, e4, hb, hbr, e5, e6, hthr, hmd, f2⟩ := hp
  subst e4
  rw [e5, e6]
  show Go g k n sh M2 (o + 277) 846 [(4, vi i), (3, vr (o + 276)), (2, vr (o + 247)), (1, vr o), (0, vr (b : Int))] [vi bb, vi 0]
  have hb1 := hb rfl
  refine go_icmp_eq (tgt := 1224) X d_Law_law_846 rfl (by omega) (by omega) (fun _ => ?_) (fun h9 => absurd (show 0 = bb by omega) h9)
  refine go_lv (lv' := [(4, vi i), (3, vr (o + 276)), (2, vr (o + 247)), (1, vr o), (0, vr (b : Int))]) X [0, 1, 2, 3, 4] rfl ?_
  exact kont _ _ M2 _ (by omega) (by omega)
set_option maxHeartbeats 4000000 in
set_option maxRecDepth 100000 in
theorem lw_kind {l : Launch} (hl : l.stackTraces = false) {D : va_G} {nm : String} {d mc ms : Nat} {sh0 : s_S} {sz0 : Int} {Po : s_Po} {g : g_X} {k n : Nat} (X : Cx l D code "CiteForgeLaw" nm 8 ret d mc ms sh0 sz0 Po g) {hh : List (Nat × Nat × Nat × Nat)} (YY : y_C sh0 sz0 hh g) (hd0 : 20 ≤ d) (hk0 : k + 1 ≤ mc) (hn0 : n + 6 ≤ ms) {sh : s_S} {M : s_M} {o i : Int} {b N : Nat} {xs : Nat → Int32} (Z : z_C b N xs g) (hcf : cf0 sh M o) (hmk0 : mks sh M (o + 247) mL) (hq : sh (o + 276) = some (.inr (.long, 1))) (hi : 0 ≤ i ∧ i + 5 ≤ N) (hN : N ≤ 100000) (kont : ∀ (k' n' : Nat) (M' : s_M) (sz' : Int), k' ≤ k + 1 → n' ≤ n + 6 → Go g k' n' sh M' sz' 1224 [(4, vi i), (3, vr (o + 276)), (2, vr (o + 247)), (1, vr o), (0, vr (b : Int))] []) : Go g k n sh M (o + 277) 851 [(4, vi i), (3, vr (o + 276)), (2, vr (o + 247)), (1, vr o), (0, vr (b : Int))] [] := by
  have hSr := scr_rng xs
  refine go_aload_n X d_Law_law_851 rfl rfl ?_
  refine go_aload_n X d_Law_law_852 rfl rfl ?_
  refine go_iload X d_Law_law_853 rfl ?_
  refine go_iconst (v := 1) X d_Law_law_855 ?_
  refine go_iadd X d_Law_law_856 ?_
  refine go_scr X Z (by omega) (by omega) d_Law_law_857 ?_
  refine go_aload_n X d_Law_law_858 rfl rfl ?_
  refine go_callSW (r := []) (np := 3) X YY lw_kind_c lw_ini (by decide +kernel) lw_kind_l lw_kind_s (h_kind l hl D hcf.1 hcf.2.2.2.2.2.2.1 hcf.2.1 hcf.2.2.1 (hSr _) rfl hq (by omega)) rfl rfl (by omega) (by decide) (by omega) (by omega) (Nat.le_of_ble_eq_true rfl) d_Law_law_859 (fun v' sh' M1 sz1 hp => ?_)
  obtain ⟨kc, vv, hkc, hvv, hkr, e1, e2, hval, hsz, f1⟩ := hp
  subst e1
  rw [e2]
  show Go g (k + 1) (n + 6) sh M1 sz1 862 [(4, vi i), (3, vr (o + 276)), (2, vr (o + 247)), (1, vr o), (0, vr (b : Int))] [vi kc]
  have hmk := hmk0.mv (sh' := sh) (M' := M1) (fun z h1 h2 => ⟨rfl, f1 z (by show ¬ ((o + 1 ≤ z ∧ z ≤ o + 246) ∨ z = o + 276); omega)⟩)
  refine go_istore (lv' := [(5, vi kc), (4, vi i), (3, vr (o + 276)), (2, vr (o + 247)), (1, vr o), (0, vr (b : Int))]) X d_Law_law_862 (by decide) rfl ?_
  refine go_aload_n X d_Law_law_864 rfl rfl ?_
  refine go_aload_n X d_Law_law_865 rfl rfl ?_
  refine go_iload X d_Law_law_866 rfl ?_
  refine go_iconst (v := 1) X d_Law_law_868 ?_
  refine go_iadd X d_Law_law_869 ?_
  refine go_scr X Z (by omega) (by omega) d_Law_law_870 ?_
  refine go_cV (st2 := []) (r := []) X k_Law_133 (m_kind0 l D hmk.mds (hSr _) (hmk.zero (f := 26) (by decide) (by decide))) hmk.1 rfl rfl (by omega) (Nat.le_of_ble_eq_true rfl) d_Law_law_871 (by omega) (by omega) (fun v' sh' M2 sz2 hp => ?_)
  obtain ⟨bb, e4, hb, hbr, e5, e6, hthr, hmd, f2⟩ := hp
  subst e4
  rw [e5, e6]
  show Go g (k + 1) (n + 6) sh M2 (sz1) 874 [(5, vi kc), (4, vi i), (3, vr (o + 276)), (2, vr (o + 247)), (1, vr o), (0, vr (b : Int))] [vi bb]
  have hthr2 : M2 (o + 247) 0 = kc := hthr.trans hkc.symm
  have hb2 : kc = 0 → bb = vv := fun q => (hb (hkc.symm.trans q)).trans hvv.symm
  have hval2 : kc = 0 → M2 (o + 276) 0 = vv ∧ rL vv := fun q => ⟨(congrFun (f2 (o + 276) (by omega)) _).trans (hval q).1, (hval q).2⟩
  refine go_istore (lv' := [(6, vi bb), (5, vi kc), (4, vi i), (3, vr (o + 276)), (2, vr (o + 247)), (1, vr o), (0, vr (b : Int))]) X d_Law_law_874 (by decide) rfl ?_
  refine go_aload_n X d_Law_law_876 rfl rfl ?_
  refine go_cVf (st2 := [vi kc]) (r := []) X k_Law_80 (m_thrown l D hmd.1 hthr2) hmk0.1 rfl rfl (by omega) (Nat.le_of_ble_eq_true rfl) d_Law_law_877 (by omega) (by omega) rfl ?_
  refine go_iload X d_Law_law_880 rfl ?_
  refine go_icmp_eq (tgt := 887) X d_Law_law_882 rfl (by omega) (by omega) (fun _ => ?_) (fun h9 => absurd (show kc = kc by omega) h9)
  refine go_iload X d_Law_law_887 rfl ?_
  refine go_if_ne (tgt := 904) X d_Law_law_889 rfl (by omega) (fun hq1 => ?_) (fun hq1 => ?_)
  · skip
    refine go_goto (tgt := 1224) X d_Law_law_904 rfl ?_
    refine go_lv (lv' := [(4, vi i), (3, vr (o + 276)), (2, vr (o + 247)), (1, vr o), (0, vr (b : Int))]) X [2, 3, 4, 5, 6] rfl ?_
    exact kont _ _ M2 _ (by omega) (by omega)
  · skip
    obtain ⟨hv1, hv2⟩ := hval2 hq1
    have hb3 := hb2 hq1
    refine go_aload_n X d_Law_law_892 rfl rfl ?_
    refine go_iconst (v := 0) X d_Law_law_893 ?_
    refine go_lald X hq (by omega) (by omega) d_Law_law_894 ?_
    refine go_top (v' := vl vv) X (by rw [hv1]) ?_
    refine go_iload X d_Law_law_895 rfl ?_
    refine go_i2l X d_Law_law_897 (by omega) ?_
    refine go_lcmp X (by omega) (by omega) d_Law_law_898 ?_
    refine go_top (v' := vi 0) X (by rw [show vv = bb by omega, s_cmp_self]) ?_
    refine go_if_eq (tgt := 904) X d_Law_law_899 rfl (by omega) (fun _ => ?_) (fun h9 => absurd h9 (by decide))
    refine go_goto (tgt := 1224) X d_Law_law_904 rfl ?_
    refine go_lv (lv' := [(4, vi i), (3, vr (o + 276)), (2, vr (o + 247)), (1, vr o), (0, vr (b : Int))]) X [2, 3, 4, 5, 6] rfl ?_
    exact kont _ _ M2 _ (by omega) (by omega)
set_option maxHeartbeats 4000000 in
set_option maxRecDepth 100000 in
theorem lw_value {l : Launch} (hl : l.stackTraces = false) {D : va_G} {nm : String} {d mc ms : Nat} {sh0 : s_S} {sz0 : Int} {Po : s_Po} {g : g_X} {k n : Nat} (X : Cx l D code "CiteForgeLaw" nm 8 ret d mc ms sh0 sz0 Po g) {hh : List (Nat × Nat × Nat × Nat)} (YY : y_C sh0 sz0 hh g) (hd0 : 20 ≤ d) (hk0 : k + 1 ≤ mc) (hn0 : n + 6 ≤ ms) {sh : s_S} {M : s_M} {o i : Int} {b N : Nat} {xs : Nat → Int32} (Z : z_C b N xs g) (hcf : cf0 sh M o) (hmk0 : mks sh M (o + 247) mL) (hq : sh (o + 276) = some (.inr (.long, 1))) (hi : 0 ≤ i ∧ i + 5 ≤ N) (hN : N ≤ 100000) (kont : ∀ (k' n' : Nat) (M' : s_M) (sz' : Int), k' ≤ k + 1 → n' ≤ n + 6 → Go g k' n' sh M' sz' 1224 [(4, vi i), (3, vr (o + 276)), (2, vr (o + 247)), (1, vr o), (0, vr (b : Int))] []) : Go g k n sh M (o + 277) 907 [(4, vi i), (3, vr (o + 276)), (2, vr (o + 247)), (1, vr o), (0, vr (b : Int))] [] := by
  have hSr := scr_rng xs
  refine go_aload_n X d_Law_law_907 rfl rfl ?_
  refine go_aload_n X d_Law_law_908 rfl rfl ?_
  refine go_iload X d_Law_law_909 rfl ?_
  refine go_iconst (v := 1) X d_Law_law_911 ?_
  refine go_iadd X d_Law_law_912 ?_
  refine go_scr X Z (by omega) (by omega) d_Law_law_913 ?_
  refine go_aload_n X d_Law_law_914 rfl rfl ?_
  refine go_callSW (r := []) (np := 3) X YY lw_value_c lw_ini (by decide +kernel) lw_value_l lw_value_s (h_value l hl D hcf.1 hcf.2.2.2.2.2.2.1 hcf.2.1 hcf.2.2.1 (hSr _) rfl hq (by omega)) rfl rfl (by omega) (by decide) (by omega) (by omega) (Nat.le_of_ble_eq_true rfl) d_Law_law_915 (fun v' sh' M1 sz1 hp => ?_)
  obtain ⟨kc, vv, hkc, hvv, hkr, e1, e2, hval, hsz, f1⟩ := hp
  subst e1
  rw [e2]
  show Go g (k + 1) (n + 6) sh M1 sz1 918 [(4, vi i), (3, vr (o + 276)), (2, vr (o + 247)), (1, vr o), (0, vr (b : Int))] [vi kc]
  have hmk := hmk0.mv (sh' := sh) (M' := M1) (fun z h1 h2 => ⟨rfl, f1 z (by show ¬ ((o + 1 ≤ z ∧ z ≤ o + 246) ∨ z = o + 276); omega)⟩)
  refine go_istore (lv' := [(5, vi kc), (4, vi i), (3, vr (o + 276)), (2, vr (o + 247)), (1, vr o), (0, vr (b : Int))]) X d_Law_law_918 (by decide) rfl ?_
  refine go_aload_n X d_Law_law_920 rfl rfl ?_
  refine go_aload_n X d_Law_law_921 rfl rfl ?_
  refine go_iload X d_Law_law_922 rfl ?_
  refine go_iconst (v := 1) X d_Law_law_924 ?_
  refine go_iadd X d_Law_law_925 ?_
  refine go_scr X Z (by omega) (by omega) d_Law_law_926 ?_
  refine go_cV (st2 := []) (r := []) X k_Law_136 (m_value0 l D hmk.mds (hSr _) (hmk.zero (f := 26) (by decide) (by decide))) hmk.1 rfl rfl (by omega) (Nat.le_of_ble_eq_true rfl) d_Law_law_927 (by omega) (by omega) (fun v' sh' M2 sz2 hp => ?_)
  obtain ⟨bb, e4, hb, hbr, e5, e6, hthr, hmd, f2⟩ := hp
  subst e4
  rw [e5, e6]
  show Go g (k + 1) (n + 6) sh M2 (sz1) 930 [(5, vi kc), (4, vi i), (3, vr (o + 276)), (2, vr (o + 247)), (1, vr o), (0, vr (b : Int))] [vi bb]
  have hthr2 : M2 (o + 247) 0 = kc := hthr.trans hkc.symm
  have hb2 : kc = 0 → bb = vv := fun q => (hb (hkc.symm.trans q)).trans hvv.symm
  have hval2 : kc = 0 → M2 (o + 276) 0 = vv ∧ rL vv := fun q => ⟨(congrFun (f2 (o + 276) (by omega)) _).trans (hval q).1, (hval q).2⟩
  refine go_istore (lv' := [(6, vi bb), (5, vi kc), (4, vi i), (3, vr (o + 276)), (2, vr (o + 247)), (1, vr o), (0, vr (b : Int))]) X d_Law_law_930 (by decide) rfl ?_
  refine go_aload_n X d_Law_law_932 rfl rfl ?_
  refine go_cVf (st2 := [vi kc]) (r := []) X k_Law_80 (m_thrown l D hmd.1 hthr2) hmk0.1 rfl rfl (by omega) (Nat.le_of_ble_eq_true rfl) d_Law_law_933 (by omega) (by omega) rfl ?_
  refine go_iload X d_Law_law_936 rfl ?_
  refine go_icmp_eq (tgt := 943) X d_Law_law_938 rfl (by omega) (by omega) (fun _ => ?_) (fun h9 => absurd (show kc = kc by omega) h9)
  refine go_iload X d_Law_law_943 rfl ?_
  refine go_if_ne (tgt := 960) X d_Law_law_945 rfl (by omega) (fun hq1 => ?_) (fun hq1 => ?_)
  · skip
    refine go_goto (tgt := 1224) X d_Law_law_960 rfl ?_
    refine go_lv (lv' := [(4, vi i), (3, vr (o + 276)), (2, vr (o + 247)), (1, vr o), (0, vr (b : Int))]) X [2, 3, 4, 5, 6] rfl ?_
    exact kont _ _ M2 _ (by omega) (by omega)
  · skip
    obtain ⟨hv1, hv2⟩ := hval2 hq1
    have hb3 := hb2 hq1
    refine go_aload_n X d_Law_law_948 rfl rfl ?_
    refine go_iconst (v := 0) X d_Law_law_949 ?_
    refine go_lald X hq (by omega) (by omega) d_Law_law_950 ?_
    refine go_top (v' := vl vv) X (by rw [hv1]) ?_
    refine go_iload X d_Law_law_951 rfl ?_
    refine go_i2l X d_Law_law_953 (by omega) ?_
    refine go_lcmp X (by omega) (by omega) d_Law_law_954 ?_
    refine go_top (v' := vi 0) X (by rw [show vv = bb by omega, s_cmp_self]) ?_
    refine go_if_eq (tgt := 960) X d_Law_law_955 rfl (by omega) (fun _ => ?_) (fun h9 => absurd h9 (by decide))
    refine go_goto (tgt := 1224) X d_Law_law_960 rfl ?_
    refine go_lv (lv' := [(4, vi i), (3, vr (o + 276)), (2, vr (o + 247)), (1, vr o), (0, vr (b : Int))]) X [2, 3, 4, 5, 6] rfl ?_
    exact kont _ _ M2 _ (by omega) (by omega)
set_option maxHeartbeats 4000000 in
set_option maxRecDepth 100000 in
theorem lw_letter {l : Launch} (hl : l.stackTraces = false) {D : va_G} {nm : String} {d mc ms : Nat} {sh0 : s_S} {sz0 : Int} {Po : s_Po} {g : g_X} {k n : Nat} (X : Cx l D code "CiteForgeLaw" nm 8 ret d mc ms sh0 sz0 Po g) {hh : List (Nat × Nat × Nat × Nat)} (YY : y_C sh0 sz0 hh g) (hd0 : 20 ≤ d) (hk0 : k + 1 ≤ mc) (hn0 : n + 6 ≤ ms) {sh : s_S} {M : s_M} {o i : Int} {b N : Nat} {xs : Nat → Int32} (Z : z_C b N xs g) (hcf : cf0 sh M o) (hmk0 : mks sh M (o + 247) mL) (hq : sh (o + 276) = some (.inr (.long, 1))) (hi : 0 ≤ i ∧ i + 5 ≤ N) (hN : N ≤ 100000) (kont : ∀ (k' n' : Nat) (M' : s_M) (sz' : Int), k' ≤ k + 1 → n' ≤ n + 6 → Go g k' n' sh M' sz' 1224 [(4, vi i), (3, vr (o + 276)), (2, vr (o + 247)), (1, vr o), (0, vr (b : Int))] []) : Go g k n sh M (o + 277) 963 [(4, vi i), (3, vr (o + 276)), (2, vr (o + 247)), (1, vr o), (0, vr (b : Int))] [] := by
  have hSr := scr_rng xs
  refine go_aload_n X d_Law_law_963 rfl rfl ?_
  refine go_aload_n X d_Law_law_964 rfl rfl ?_
  refine go_iload X d_Law_law_965 rfl ?_
  refine go_iconst (v := 1) X d_Law_law_967 ?_
  refine go_iadd X d_Law_law_968 ?_
  refine go_scr X Z (by omega) (by omega) d_Law_law_969 ?_
  refine go_aload_n X d_Law_law_970 rfl rfl ?_
  refine go_iload X d_Law_law_971 rfl ?_
  refine go_iconst (v := 2) X d_Law_law_973 ?_
  refine go_iadd X d_Law_law_974 ?_
  refine go_scr X Z (by omega) (by omega) d_Law_law_975 ?_
  refine go_aload_n X d_Law_law_976 rfl rfl ?_
  refine go_callSW (r := []) (np := 4) X YY lw_letter_c lw_ini (by decide +kernel) lw_letter_l lw_letter_s (h_letter l hl D hcf.1 hcf.2.2.2.2.2.2.1 hcf.2.1 hcf.2.2.1 (hSr _) rfl hq (by omega)) rfl rfl (by omega) (by decide) (by omega) (by omega) (Nat.le_of_ble_eq_true rfl) d_Law_law_977 (fun v' sh' M1 sz1 hp => ?_)
  obtain ⟨kc, vv, hkc, hvv, hkr, e1, e2, hval, hsz, f1⟩ := hp
  subst e1
  rw [e2]
  show Go g (k + 1) (n + 6) sh M1 sz1 980 [(4, vi i), (3, vr (o + 276)), (2, vr (o + 247)), (1, vr o), (0, vr (b : Int))] [vi kc]
  have hmk := hmk0.mv (sh' := sh) (M' := M1) (fun z h1 h2 => ⟨rfl, f1 z (by show ¬ ((o + 1 ≤ z ∧ z ≤ o + 246) ∨ z = o + 276); omega)⟩)
  refine go_istore (lv' := [(5, vi kc), (4, vi i), (3, vr (o + 276)), (2, vr (o + 247)), (1, vr o), (0, vr (b : Int))]) X d_Law_law_980 (by decide) rfl ?_
  refine go_aload_n X d_Law_law_982 rfl rfl ?_
  refine go_aload_n X d_Law_law_983 rfl rfl ?_
  refine go_iload X d_Law_law_984 rfl ?_
  refine go_iconst (v := 1) X d_Law_law_986 ?_
  refine go_iadd X d_Law_law_987 ?_
  refine go_scr X Z (by omega) (by omega) d_Law_law_988 ?_
  refine go_aload_n X d_Law_law_989 rfl rfl ?_
  refine go_iload X d_Law_law_990 rfl ?_
  refine go_iconst (v := 2) X d_Law_law_992 ?_
  refine go_iadd X d_Law_law_993 ?_
  refine go_scr X Z (by omega) (by omega) d_Law_law_994 ?_
  refine go_cV (st2 := []) (r := []) X k_Law_139 (m_letter0 l D hmk.mds (hSr _) (hmk.zero (f := 26) (by decide) (by decide))) hmk.1 rfl rfl (by omega) (Nat.le_of_ble_eq_true rfl) d_Law_law_995 (by omega) (by omega) (fun v' sh' M2 sz2 hp => ?_)
  obtain ⟨bb, e4, hb, hbr, e5, e6, hthr, hmd, f2⟩ := hp
  subst e4
  rw [e5, e6]
  show Go g (k + 1) (n + 6) sh M2 (sz1) 998 [(5, vi kc), (4, vi i), (3, vr (o + 276)), (2, vr (o + 247)), (1, vr o), (0, vr (b : Int))] [vi bb]
  have hthr2 : M2 (o + 247) 0 = kc := hthr.trans hkc.symm
  have hb2 : kc = 0 → bb = vv := fun q => (hb (hkc.symm.trans q)).trans hvv.symm
  have hval2 : kc = 0 → M2 (o + 276) 0 = vv ∧ rL vv := fun q => ⟨(congrFun (f2 (o + 276) (by omega)) _).trans (hval q).1, (hval q).2⟩
  refine go_istore (lv' := [(6, vi bb), (5, vi kc), (4, vi i), (3, vr (o + 276)), (2, vr (o + 247)), (1, vr o), (0, vr (b : Int))]) X d_Law_law_998 (by decide) rfl ?_
  refine go_aload_n X d_Law_law_1000 rfl rfl ?_
  refine go_cVf (st2 := [vi kc]) (r := []) X k_Law_80 (m_thrown l D hmd.1 hthr2) hmk0.1 rfl rfl (by omega) (Nat.le_of_ble_eq_true rfl) d_Law_law_1001 (by omega) (by omega) rfl ?_
  refine go_iload X d_Law_law_1004 rfl ?_
  refine go_icmp_eq (tgt := 1011) X d_Law_law_1006 rfl (by omega) (by omega) (fun _ => ?_) (fun h9 => absurd (show kc = kc by omega) h9)
  refine go_iload X d_Law_law_1011 rfl ?_
  refine go_if_ne (tgt := 1028) X d_Law_law_1013 rfl (by omega) (fun hq1 => ?_) (fun hq1 => ?_)
  · skip
    refine go_goto (tgt := 1224) X d_Law_law_1028 rfl ?_
    refine go_lv (lv' := [(4, vi i), (3, vr (o + 276)), (2, vr (o + 247)), (1, vr o), (0, vr (b : Int))]) X [2, 3, 4, 5, 6] rfl ?_
    exact kont _ _ M2 _ (by omega) (by omega)
  · skip
    obtain ⟨hv1, hv2⟩ := hval2 hq1
    have hb3 := hb2 hq1
    refine go_aload_n X d_Law_law_1016 rfl rfl ?_
    refine go_iconst (v := 0) X d_Law_law_1017 ?_
    refine go_lald X hq (by omega) (by omega) d_Law_law_1018 ?_
    refine go_top (v' := vl vv) X (by rw [hv1]) ?_
    refine go_iload X d_Law_law_1019 rfl ?_
    refine go_i2l X d_Law_law_1021 (by omega) ?_
    refine go_lcmp X (by omega) (by omega) d_Law_law_1022 ?_
    refine go_top (v' := vi 0) X (by rw [show vv = bb by omega, s_cmp_self]) ?_
    refine go_if_eq (tgt := 1028) X d_Law_law_1023 rfl (by omega) (fun _ => ?_) (fun h9 => absurd h9 (by decide))
    refine go_goto (tgt := 1224) X d_Law_law_1028 rfl ?_
    refine go_lv (lv' := [(4, vi i), (3, vr (o + 276)), (2, vr (o + 247)), (1, vr o), (0, vr (b : Int))]) X [2, 3, 4, 5, 6] rfl ?_
    exact kont _ _ M2 _ (by omega) (by omega)
set_option maxHeartbeats 4000000 in
set_option maxRecDepth 100000 in
theorem lw_empty {l : Launch} (hl : l.stackTraces = false) {D : va_G} {nm : String} {d mc ms : Nat} {sh0 : s_S} {sz0 : Int} {Po : s_Po} {g : g_X} {k n : Nat} (X : Cx l D code "CiteForgeLaw" nm 8 ret d mc ms sh0 sz0 Po g) {hh : List (Nat × Nat × Nat × Nat)} (YY : y_C sh0 sz0 hh g) (hd0 : 20 ≤ d) (hk0 : k + 1 ≤ mc) (hn0 : n + 6 ≤ ms) {sh : s_S} {M : s_M} {o i : Int} {b N : Nat} {xs : Nat → Int32} (Z : z_C b N xs g) (hcf : cf0 sh M o) (hmk0 : mks sh M (o + 247) mL) (hq : sh (o + 276) = some (.inr (.long, 1))) (hi : 0 ≤ i ∧ i + 5 ≤ N) (hN : N ≤ 100000) (kont : ∀ (k' n' : Nat) (M' : s_M) (sz' : Int), k' ≤ k + 1 → n' ≤ n + 6 → Go g k' n' sh M' sz' 1224 [(4, vi i), (3, vr (o + 276)), (2, vr (o + 247)), (1, vr o), (0, vr (b : Int))] []) : Go g k n sh M (o + 277) 1031 [(4, vi i), (3, vr (o + 276)), (2, vr (o + 247)), (1, vr o), (0, vr (b : Int))] [] := by
  have hSr := scr_rng xs
  refine go_aload_n X d_Law_law_1031 rfl rfl ?_
  refine go_cV (st2 := []) (r := []) X k_Law_140 (f_empty l D hcf.1 hcf.2.2.2.2.2.2.1 hcf.2.1 hcf.2.2.1 ) hcf.1.1 rfl rfl (by omega) (Nat.le_of_ble_eq_true rfl) d_Law_law_1032 (by omega) (by omega) (fun v' sh' M1 sz1 hp => ?_)
  obtain ⟨e1, e2, e3, _, _, f1⟩ := hp
  subst e1
  rw [e2, e3]
  show Go g k n sh M1 (o + 277) 1035 [(4, vi i), (3, vr (o + 276)), (2, vr (o + 247)), (1, vr o), (0, vr (b : Int))] [vi 0]
  have hmk := hmk0.mv (sh' := sh) (M' := M1) (fun z h1 h2 => ⟨rfl, f1 z (by show ¬ (o + 1 ≤ z ∧ z ≤ o + 246); omega)⟩)
  refine go_aload_n X d_Law_law_1035 rfl rfl ?_
  refine go_cV (st2 := []) (r := [vi 0]) X k_Law_143 (m_empty l D hmk.mds (by decide) (hmk.zero (f := 26) (by decide) (by decide))) hmk.1 rfl rfl (by omega) (Nat.le_of_ble_eq_true rfl) d_Law_law_1036 (by omega) (by omega) (fun v' sh' M2 sz2 hp => ?_)
  obtain ⟨bb, e4, hb, hbr, e5, e6, hthr, hmd, f2⟩ := hp
  subst e4
  rw [e5, e6]
  show Go g k n sh M2 (o + 277) 1039 [(4, vi i), (3, vr (o + 276)), (2, vr (o + 247)), (1, vr o), (0, vr (b : Int))] [vi bb, vi 0]
  have hb1 := hb rfl
  refine go_icmp_eq (tgt := 1224) X d_Law_law_1039 rfl (by omega) (by omega) (fun _ => ?_) (fun h9 => absurd (show 0 = bb by omega) h9)
  refine go_lv (lv' := [(4, vi i), (3, vr (o + 276)), (2, vr (o + 247)), (1, vr o), (0, vr (b : Int))]) X [0, 1, 2, 3, 4] rfl ?_
  exact kont _ _ M2 _ (by omega) (by omega)
set_option maxHeartbeats 4000000 in
set_option maxRecDepth 100000 in
theorem lw_line {l : Launch} (hl : l.stackTraces = false) {D : va_G} {nm : String} {d mc ms : Nat} {sh0 : s_S} {sz0 : Int} {Po : s_Po} {g : g_X} {k n : Nat} (X : Cx l D code "CiteForgeLaw" nm 8 ret d mc ms sh0 sz0 Po g) {hh : List (Nat × Nat × Nat × Nat)} (YY : y_C sh0 sz0 hh g) (hd0 : 20 ≤ d) (hk0 : k + 1 ≤ mc) (hn0 : n + 6 ≤ ms) {sh : s_S} {M : s_M} {o i : Int} {b N : Nat} {xs : Nat → Int32} (Z : z_C b N xs g) (hcf : cf0 sh M o) (hmk0 : mks sh M (o + 247) mL) (hq : sh (o + 276) = some (.inr (.long, 1))) (hi : 0 ≤ i ∧ i + 5 ≤ N) (hN : N ≤ 100000) (kont : ∀ (k' n' : Nat) (M' : s_M) (sz' : Int), k' ≤ k + 1 → n' ≤ n + 6 → Go g k' n' sh M' sz' 1224 [(4, vi i), (3, vr (o + 276)), (2, vr (o + 247)), (1, vr o), (0, vr (b : Int))] []) : Go g k n sh M (o + 277) 1044 [(4, vi i), (3, vr (o + 276)), (2, vr (o + 247)), (1, vr o), (0, vr (b : Int))] [] := by
  have hSr := scr_rng xs
  refine go_aload_n X d_Law_law_1044 rfl rfl ?_
  refine go_aload_n X d_Law_law_1045 rfl rfl ?_
  refine go_iload X d_Law_law_1046 rfl ?_
  refine go_iconst (v := 1) X d_Law_law_1048 ?_
  refine go_iadd X d_Law_law_1049 ?_
  refine go_scr X Z (by omega) (by omega) d_Law_law_1050 ?_
  refine go_aload_n X d_Law_law_1051 rfl rfl ?_
  refine go_iload X d_Law_law_1052 rfl ?_
  refine go_iconst (v := 2) X d_Law_law_1054 ?_
  refine go_iadd X d_Law_law_1055 ?_
  refine go_scr X Z (by omega) (by omega) d_Law_law_1056 ?_
  refine go_aload_n X d_Law_law_1057 rfl rfl ?_
  refine go_callSW (r := []) (np := 4) X YY lw_line_c lw_ini (by decide +kernel) lw_line_l lw_line_s (h_line l hl D hcf.1 hcf.2.2.2.2.2.2.2.1 (hSr _) rfl hq (by omega)) rfl rfl (by omega) (by decide) (by omega) (by omega) (Nat.le_of_ble_eq_true rfl) d_Law_law_1058 (fun v' sh' M1 sz1 hp => ?_)
  obtain ⟨kc, vv, hkc, hvv, hkr, e1, e2, hval, hsz, f1⟩ := hp
  subst e1
  rw [e2]
  show Go g (k + 1) (n + 6) sh M1 sz1 1061 [(4, vi i), (3, vr (o + 276)), (2, vr (o + 247)), (1, vr o), (0, vr (b : Int))] [vi kc]
  have hmk := hmk0.mv (sh' := sh) (M' := M1) (fun z h1 h2 => ⟨rfl, f1 z (by show ¬ ((o + 1 ≤ z ∧ z ≤ o + 246) ∨ z = o + 276); omega)⟩)
  refine go_istore (lv' := [(5, vi kc), (4, vi i), (3, vr (o + 276)), (2, vr (o + 247)), (1, vr o), (0, vr (b : Int))]) X d_Law_law_1061 (by decide) rfl ?_
  refine go_aload_n X d_Law_law_1063 rfl rfl ?_
  refine go_aload_n X d_Law_law_1064 rfl rfl ?_
  refine go_iload X d_Law_law_1065 rfl ?_
  refine go_iconst (v := 1) X d_Law_law_1067 ?_
  refine go_iadd X d_Law_law_1068 ?_
  refine go_scr X Z (by omega) (by omega) d_Law_law_1069 ?_
  refine go_aload_n X d_Law_law_1070 rfl rfl ?_
  refine go_iload X d_Law_law_1071 rfl ?_
  refine go_iconst (v := 2) X d_Law_law_1073 ?_
  refine go_iadd X d_Law_law_1074 ?_
  refine go_scr X Z (by omega) (by omega) d_Law_law_1075 ?_
  refine go_cV (st2 := []) (r := []) X k_Law_146 (m_line0 l D hmk.mds (hSr _) (hmk.zero (f := 44) (by decide) (by decide))) hmk.1 rfl rfl (by omega) (Nat.le_of_ble_eq_true rfl) d_Law_law_1076 (by omega) (by omega) (fun v' sh' M2 sz2 hp => ?_)
  obtain ⟨bb, e4, hb, hbr, e5, e6, hthr, hmd, f2⟩ := hp
  subst e4
  rw [e5, e6]
  show Go g (k + 1) (n + 6) sh M2 (sz1) 1079 [(5, vi kc), (4, vi i), (3, vr (o + 276)), (2, vr (o + 247)), (1, vr o), (0, vr (b : Int))] [vi bb]
  have hthr2 : M2 (o + 247) 0 = kc := hthr.trans hkc.symm
  have hb2 : kc = 0 → bb = vv := fun q => (hb (hkc.symm.trans q)).trans hvv.symm
  have hval2 : kc = 0 → M2 (o + 276) 0 = vv ∧ rL vv := fun q => ⟨(congrFun (f2 (o + 276) (by omega)) _).trans (hval q).1, (hval q).2⟩
  refine go_istore (lv' := [(6, vi bb), (5, vi kc), (4, vi i), (3, vr (o + 276)), (2, vr (o + 247)), (1, vr o), (0, vr (b : Int))]) X d_Law_law_1079 (by decide) rfl ?_
  refine go_aload_n X d_Law_law_1081 rfl rfl ?_
  refine go_cVf (st2 := [vi kc]) (r := []) X k_Law_80 (m_thrown l D hmd.1 hthr2) hmk0.1 rfl rfl (by omega) (Nat.le_of_ble_eq_true rfl) d_Law_law_1082 (by omega) (by omega) rfl ?_
  refine go_iload X d_Law_law_1085 rfl ?_
  refine go_icmp_eq (tgt := 1092) X d_Law_law_1087 rfl (by omega) (by omega) (fun _ => ?_) (fun h9 => absurd (show kc = kc by omega) h9)
  refine go_iload X d_Law_law_1092 rfl ?_
  refine go_if_ne (tgt := 1109) X d_Law_law_1094 rfl (by omega) (fun hq1 => ?_) (fun hq1 => ?_)
  · skip
    refine go_goto (tgt := 1224) X d_Law_law_1109 rfl ?_
    refine go_lv (lv' := [(4, vi i), (3, vr (o + 276)), (2, vr (o + 247)), (1, vr o), (0, vr (b : Int))]) X [2, 3, 4, 5, 6] rfl ?_
    exact kont _ _ M2 _ (by omega) (by omega)
  · skip
    obtain ⟨hv1, hv2⟩ := hval2 hq1
    have hb3 := hb2 hq1
    refine go_aload_n X d_Law_law_1097 rfl rfl ?_
    refine go_iconst (v := 0) X d_Law_law_1098 ?_
    refine go_lald X hq (by omega) (by omega) d_Law_law_1099 ?_
    refine go_top (v' := vl vv) X (by rw [hv1]) ?_
    refine go_iload X d_Law_law_1100 rfl ?_
    refine go_i2l X d_Law_law_1102 (by omega) ?_
    refine go_lcmp X (by omega) (by omega) d_Law_law_1103 ?_
    refine go_top (v' := vi 0) X (by rw [show vv = bb by omega, s_cmp_self]) ?_
    refine go_if_eq (tgt := 1109) X d_Law_law_1104 rfl (by omega) (fun _ => ?_) (fun h9 => absurd h9 (by decide))
    refine go_goto (tgt := 1224) X d_Law_law_1109 rfl ?_
    refine go_lv (lv' := [(4, vi i), (3, vr (o + 276)), (2, vr (o + 247)), (1, vr o), (0, vr (b : Int))]) X [2, 3, 4, 5, 6] rfl ?_
    exact kont _ _ M2 _ (by omega) (by omega)
set_option maxHeartbeats 4000000 in
set_option maxRecDepth 100000 in
theorem lw_count {l : Launch} (hl : l.stackTraces = false) {D : va_G} {nm : String} {d mc ms : Nat} {sh0 : s_S} {sz0 : Int} {Po : s_Po} {g : g_X} {k n : Nat} (X : Cx l D code "CiteForgeLaw" nm 8 ret d mc ms sh0 sz0 Po g) {hh : List (Nat × Nat × Nat × Nat)} (YY : y_C sh0 sz0 hh g) (hd0 : 20 ≤ d) (hk0 : k + 1 ≤ mc) (hn0 : n + 6 ≤ ms) {sh : s_S} {M : s_M} {o i : Int} {b N : Nat} {xs : Nat → Int32} (Z : z_C b N xs g) (hcf : cf0 sh M o) (hmk0 : mks sh M (o + 247) mL) (hq : sh (o + 276) = some (.inr (.long, 1))) (hi : 0 ≤ i ∧ i + 5 ≤ N) (hN : N ≤ 100000) (kont : ∀ (k' n' : Nat) (M' : s_M) (sz' : Int), k' ≤ k + 1 → n' ≤ n + 6 → Go g k' n' sh M' sz' 1224 [(4, vi i), (3, vr (o + 276)), (2, vr (o + 247)), (1, vr o), (0, vr (b : Int))] []) : Go g k n sh M (o + 277) 1112 [(4, vi i), (3, vr (o + 276)), (2, vr (o + 247)), (1, vr o), (0, vr (b : Int))] [] := by
  have hSr := scr_rng xs
  refine go_aload_n X d_Law_law_1112 rfl rfl ?_
  refine go_aload_n X d_Law_law_1113 rfl rfl ?_
  refine go_iload X d_Law_law_1114 rfl ?_
  refine go_iconst (v := 1) X d_Law_law_1116 ?_
  refine go_iadd X d_Law_law_1117 ?_
  refine go_scr X Z (by omega) (by omega) d_Law_law_1118 ?_
  refine go_aload_n X d_Law_law_1119 rfl rfl ?_
  refine go_callSW (r := []) (np := 3) X YY lw_count_c lw_ini (by decide +kernel) lw_count_l lw_count_s (h_count l hl D hcf.1 hcf.2.2.2.1 hcf.2.2.2.2.2.1 hcf.2.2.2.2.2.2.2.1 (hSr _) (by decide) hq (by omega)) rfl rfl (by omega) (by decide) (by omega) (by omega) (Nat.le_of_ble_eq_true rfl) d_Law_law_1120 (fun v' sh' M1 sz1 hp => ?_)
  obtain ⟨kc, vv, hkc, hvv, hkr, e1, e2, hval, hsz, f1⟩ := hp
  subst e1
  rw [e2]
  show Go g (k + 1) (n + 6) sh M1 sz1 1123 [(4, vi i), (3, vr (o + 276)), (2, vr (o + 247)), (1, vr o), (0, vr (b : Int))] [vi kc]
  have hmk := hmk0.mv (sh' := sh) (M' := M1) (fun z h1 h2 => ⟨rfl, f1 z (by show ¬ ((o + 1 ≤ z ∧ z ≤ o + 246) ∨ z = o + 276); omega)⟩)
  refine go_istore (lv' := [(5, vi kc), (4, vi i), (3, vr (o + 276)), (2, vr (o + 247)), (1, vr o), (0, vr (b : Int))]) X d_Law_law_1123 (by decide) rfl ?_
  refine go_aload_n X d_Law_law_1125 rfl rfl ?_
  refine go_aload_n X d_Law_law_1126 rfl rfl ?_
  refine go_iload X d_Law_law_1127 rfl ?_
  refine go_iconst (v := 1) X d_Law_law_1129 ?_
  refine go_iadd X d_Law_law_1130 ?_
  refine go_scr X Z (by omega) (by omega) d_Law_law_1131 ?_
  refine go_cV (st2 := []) (r := []) X k_Law_149 (m_count l D hmk.mds (hSr _) (by decide) (by decide) (by decide) (by decide) (by decide) (hmk.zero (f := 6) (by decide) (by decide)) (hmk.zero (f := 15) (by decide) (by decide)) (hmk.zero (f := 44) (by decide) (by decide)) (hmk.zero (f := 45) (by decide) (by decide)) (hmk.zero (f := 13) (by decide) (by decide))) hmk.1 rfl rfl (by omega) (Nat.le_of_ble_eq_true rfl) d_Law_law_1132 (by omega) (by omega) (fun v' sh' M2 sz2 hp => ?_)
  obtain ⟨bb, e4, hb, hbr, e5, e6, hthr, hmd, f2⟩ := hp
  subst e4
  rw [e5, e6]
  show Go g (k + 1) (n + 6) sh M2 (sz1) 1135 [(5, vi kc), (4, vi i), (3, vr (o + 276)), (2, vr (o + 247)), (1, vr o), (0, vr (b : Int))] [vi bb]
  have hthr2 : M2 (o + 247) 0 = kc := hthr.trans hkc.symm
  have hb2 : kc = 0 → bb = vv := fun q => (hb (hkc.symm.trans q)).trans hvv.symm
  have hval2 : kc = 0 → M2 (o + 276) 0 = vv ∧ rL vv := fun q => ⟨(congrFun (f2 (o + 276) (by omega)) _).trans (hval q).1, (hval q).2⟩
  refine go_istore (lv' := [(6, vi bb), (5, vi kc), (4, vi i), (3, vr (o + 276)), (2, vr (o + 247)), (1, vr o), (0, vr (b : Int))]) X d_Law_law_1135 (by decide) rfl ?_
  refine go_aload_n X d_Law_law_1137 rfl rfl ?_
  refine go_cVf (st2 := [vi kc]) (r := []) X k_Law_80 (m_thrown l D hmd.1 hthr2) hmk0.1 rfl rfl (by omega) (Nat.le_of_ble_eq_true rfl) d_Law_law_1138 (by omega) (by omega) rfl ?_
  refine go_iload X d_Law_law_1141 rfl ?_
  refine go_icmp_eq (tgt := 1148) X d_Law_law_1143 rfl (by omega) (by omega) (fun _ => ?_) (fun h9 => absurd (show kc = kc by omega) h9)
  refine go_iload X d_Law_law_1148 rfl ?_
  refine go_if_ne (tgt := 1165) X d_Law_law_1150 rfl (by omega) (fun hq1 => ?_) (fun hq1 => ?_)
  · skip
    refine go_goto (tgt := 1224) X d_Law_law_1165 rfl ?_
    refine go_lv (lv' := [(4, vi i), (3, vr (o + 276)), (2, vr (o + 247)), (1, vr o), (0, vr (b : Int))]) X [2, 3, 4, 5, 6] rfl ?_
    exact kont _ _ M2 _ (by omega) (by omega)
  · skip
    obtain ⟨hv1, hv2⟩ := hval2 hq1
    have hb3 := hb2 hq1
    refine go_aload_n X d_Law_law_1153 rfl rfl ?_
    refine go_iconst (v := 0) X d_Law_law_1154 ?_
    refine go_lald X hq (by omega) (by omega) d_Law_law_1155 ?_
    refine go_top (v' := vl vv) X (by rw [hv1]) ?_
    refine go_iload X d_Law_law_1156 rfl ?_
    refine go_i2l X d_Law_law_1158 (by omega) ?_
    refine go_lcmp X (by omega) (by omega) d_Law_law_1159 ?_
    refine go_top (v' := vi 0) X (by rw [show vv = bb by omega, s_cmp_self]) ?_
    refine go_if_eq (tgt := 1165) X d_Law_law_1160 rfl (by omega) (fun _ => ?_) (fun h9 => absurd h9 (by decide))
    refine go_goto (tgt := 1224) X d_Law_law_1165 rfl ?_
    refine go_lv (lv' := [(4, vi i), (3, vr (o + 276)), (2, vr (o + 247)), (1, vr o), (0, vr (b : Int))]) X [2, 3, 4, 5, 6] rfl ?_
    exact kont _ _ M2 _ (by omega) (by omega)
set_option maxHeartbeats 4000000 in
set_option maxRecDepth 100000 in
theorem lw_warnings {l : Launch} (hl : l.stackTraces = false) {D : va_G} {nm : String} {d mc ms : Nat} {sh0 : s_S} {sz0 : Int} {Po : s_Po} {g : g_X} {k n : Nat} (X : Cx l D code "CiteForgeLaw" nm 8 ret d mc ms sh0 sz0 Po g) {hh : List (Nat × Nat × Nat × Nat)} (YY : y_C sh0 sz0 hh g) (hd0 : 20 ≤ d) (hk0 : k + 1 ≤ mc) (hn0 : n + 6 ≤ ms) {sh : s_S} {M : s_M} {o i : Int} {b N : Nat} {xs : Nat → Int32} (Z : z_C b N xs g) (hcf : cf0 sh M o) (hmk0 : mks sh M (o + 247) mL) (hq : sh (o + 276) = some (.inr (.long, 1))) (hi : 0 ≤ i ∧ i + 5 ≤ N) (hN : N ≤ 100000) (kont : ∀ (k' n' : Nat) (M' : s_M) (sz' : Int), k' ≤ k + 1 → n' ≤ n + 6 → Go g k' n' sh M' sz' 1224 [(4, vi i), (3, vr (o + 276)), (2, vr (o + 247)), (1, vr o), (0, vr (b : Int))] []) : Go g k n sh M (o + 277) 1168 [(4, vi i), (3, vr (o + 276)), (2, vr (o + 247)), (1, vr o), (0, vr (b : Int))] [] := by
  have hSr := scr_rng xs
  refine go_aload_n X d_Law_law_1168 rfl rfl ?_
  refine go_aload_n X d_Law_law_1169 rfl rfl ?_
  refine go_iload X d_Law_law_1170 rfl ?_
  refine go_iconst (v := 1) X d_Law_law_1172 ?_
  refine go_iadd X d_Law_law_1173 ?_
  refine go_scr X Z (by omega) (by omega) d_Law_law_1174 ?_
  refine go_aload_n X d_Law_law_1175 rfl rfl ?_
  refine go_callSW (r := []) (np := 3) X YY lw_warnings_c lw_ini (by decide +kernel) lw_warnings_l lw_warnings_s (h_warnings l hl D hcf.1  hcf.2.1 hcf.2.2.1 (hSr _) hq (by omega)) rfl rfl (by omega) (by decide) (by omega) (by omega) (Nat.le_of_ble_eq_true rfl) d_Law_law_1176 (fun v' sh' M1 sz1 hp => ?_)
  obtain ⟨kc, vv, hkc, hvv, hkr, e1, e2, hval, hsz, f1⟩ := hp
  subst e1
  rw [e2]
  show Go g (k + 1) (n + 6) sh M1 sz1 1179 [(4, vi i), (3, vr (o + 276)), (2, vr (o + 247)), (1, vr o), (0, vr (b : Int))] [vi kc]
  have hmk := hmk0.mv (sh' := sh) (M' := M1) (fun z h1 h2 => ⟨rfl, f1 z (by show ¬ ((o + 1 ≤ z ∧ z ≤ o + 246) ∨ z = o + 276); omega)⟩)
  refine go_istore (lv' := [(5, vi kc), (4, vi i), (3, vr (o + 276)), (2, vr (o + 247)), (1, vr o), (0, vr (b : Int))]) X d_Law_law_1179 (by decide) rfl ?_
  refine go_aload_n X d_Law_law_1181 rfl rfl ?_
  refine go_aload_n X d_Law_law_1182 rfl rfl ?_
  refine go_iload X d_Law_law_1183 rfl ?_
  refine go_iconst (v := 1) X d_Law_law_1185 ?_
  refine go_iadd X d_Law_law_1186 ?_
  refine go_scr X Z (by omega) (by omega) d_Law_law_1187 ?_
  refine go_cV (st2 := []) (r := []) X k_Law_152 (m_warnings l D hmk.mds (hSr _) ((hmk.2.2.1 0 _ rfl).2.2.1)) hmk.1 rfl rfl (by omega) (Nat.le_of_ble_eq_true rfl) d_Law_law_1188 (by omega) (by omega) (fun v' sh' M2 sz2 hp => ?_)
  obtain ⟨bb, e4, hb, hbr, e5, e6, hthr, hmd, f2⟩ := hp
  subst e4
  rw [e5, e6]
  show Go g (k + 1) (n + 6) sh M2 (sz1) 1191 [(5, vi kc), (4, vi i), (3, vr (o + 276)), (2, vr (o + 247)), (1, vr o), (0, vr (b : Int))] [vi bb]
  have hthr2 : M2 (o + 247) 0 = kc := hthr.trans hkc.symm
  have hb2 : kc = 0 → bb = vv := fun q => (hb (hkc.symm.trans q)).trans hvv.symm
  have hval2 : kc = 0 → M2 (o + 276) 0 = vv ∧ rL vv := fun q => ⟨(congrFun (f2 (o + 276) (by omega)) _).trans (hval q).1, (hval q).2⟩
  refine go_istore (lv' := [(6, vi bb), (5, vi kc), (4, vi i), (3, vr (o + 276)), (2, vr (o + 247)), (1, vr o), (0, vr (b : Int))]) X d_Law_law_1191 (by decide) rfl ?_
  refine go_aload_n X d_Law_law_1193 rfl rfl ?_
  refine go_cVf (st2 := [vi kc]) (r := []) X k_Law_80 (m_thrown l D hmd.1 hthr2) hmk0.1 rfl rfl (by omega) (Nat.le_of_ble_eq_true rfl) d_Law_law_1194 (by omega) (by omega) rfl ?_
  refine go_iload X d_Law_law_1197 rfl ?_
  refine go_icmp_eq (tgt := 1204) X d_Law_law_1199 rfl (by omega) (by omega) (fun _ => ?_) (fun h9 => absurd (show kc = kc by omega) h9)
  refine go_iload X d_Law_law_1204 rfl ?_
  refine go_if_ne (tgt := 1221) X d_Law_law_1206 rfl (by omega) (fun hq1 => ?_) (fun hq1 => ?_)
  · skip
    refine go_goto (tgt := 1224) X d_Law_law_1221 rfl ?_
    refine go_lv (lv' := [(4, vi i), (3, vr (o + 276)), (2, vr (o + 247)), (1, vr o), (0, vr (b : Int))]) X [2, 3, 4, 5, 6] rfl ?_
    exact kont _ _ M2 _ (by omega) (by omega)
  · skip
    obtain ⟨hv1, hv2⟩ := hval2 hq1
    have hb3 := hb2 hq1
    refine go_aload_n X d_Law_law_1209 rfl rfl ?_
    refine go_iconst (v := 0) X d_Law_law_1210 ?_
    refine go_lald X hq (by omega) (by omega) d_Law_law_1211 ?_
    refine go_top (v' := vl vv) X (by rw [hv1]) ?_
    refine go_iload X d_Law_law_1212 rfl ?_
    refine go_i2l X d_Law_law_1214 (by omega) ?_
    refine go_lcmp X (by omega) (by omega) d_Law_law_1215 ?_
    refine go_top (v' := vi 0) X (by rw [show vv = bb by omega, s_cmp_self]) ?_
    refine go_if_eq (tgt := 1221) X d_Law_law_1216 rfl (by omega) (fun _ => ?_) (fun h9 => absurd h9 (by decide))
    refine go_goto (tgt := 1224) X d_Law_law_1221 rfl ?_
    refine go_lv (lv' := [(4, vi i), (3, vr (o + 276)), (2, vr (o + 247)), (1, vr o), (0, vr (b : Int))]) X [2, 3, 4, 5, 6] rfl ?_
    exact kont _ _ M2 _ (by omega) (by omega)
