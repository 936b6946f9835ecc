/-! The law: a case on a new object. -/
def u64 (x : Int) : Int := x % 18446744073709551616
theorem u64_vl (x : Int) : vl x = vl (u64 x) := by
  show Value.long (Int64.ofInt x) = Value.long (Int64.ofInt (x % 18446744073709551616))
  congr 1
  apply Int64.toInt.inj
  rw [Int64.toInt_ofInt, Int64.toInt_ofInt]
  show x.bmod 18446744073709551616 = (x % 18446744073709551616).bmod 18446744073709551616
  rw [Int.emod_bmod]
theorem u64_rng (x : Int) : 0 ≤ u64 x ∧ u64 x < 18446744073709551616 := by
  unfold u64
  omega
def lan_ (x y : Int) : Int := (Int64.ofInt x &&& Int64.ofInt y).toInt
def lor_ (x y : Int) : Int := (Int64.ofInt x ||| Int64.ofInt y).toInt
def lsh_ (x y : Int) : Int := (Int64.ofInt x <<< ((Int32.ofInt y).toInt64 &&& 63)).toInt
def ian_ (x y : Int) : Int := (Int32.ofInt x &&& Int32.ofInt y).toInt
theorem lor_rng (x y : Int) : rL (lor_ x y) := ⟨Int64.le_toInt _, Int64.toInt_lt _⟩
theorem ian_rng (x y : Int) : -2147483648 ≤ ian_ x y ∧ ian_ x y < 2147483648 := ⟨Int32.le_toInt _, Int32.toInt_lt _⟩
theorem s_cmp_self (x : Int) : s_cmp x x = 0 := by
  unfold s_cmp
  rw [if_neg (by omega), if_pos rfl]
/-- the script: a cell of the start that nobody writes -/
def z_C (b L : Nat) (xs : Nat → Int32) (g : g_X) : Prop := match g with
  | (_, _, _, _, s, _, _, _, _, _, _, A, _, _) => va_X b L xs s s.heap ∧ b < s.heap.size ∧ ¬ A b
def scr_ (xs : Nat → Int32) : Int → Int := fun j => (xs j.toNat).toInt
theorem scr_rng (xs : Nat → Int32) (j : Int) : -2147483648 ≤ scr_ xs j ∧ scr_ xs j < 2147483648 := ⟨Int32.le_toInt _, Int32.toInt_lt _⟩
section GoScript
variable {l : Launch} {D : va_G} {cc : ByteArray} {own nm : String} {nL : Nat} {ret : Option FieldType} {d mc ms : Nat} {sh0 : s_S} {sz0 : Int} {Po : s_Po} {g : g_X} {k n : Nat} {sh : s_S} {M : s_M} {sz : Int} {pc : Nat} {lv : List (Nat × Value)} {r : List Value} {b N : Nat} {xs : Nat → Int32}
theorem go_scrlen (X : Cx l D cc own nm nL ret d mc ms sh0 sz0 Po g) (Z : z_C b N xs g) (hd : decode cc pc = .ok (.arraylength, 1)) (kk : Go g k n sh M sz (pc + 1) lv (vi N :: r)) : Go g k n sh M sz pc lv (vr (b : Int) :: r) := by
  obtain ⟨p, l', e, R, s, m, args, below, meth, c, D', A, Q, nL'⟩ := g
  obtain ⟨rfl, rfl, rfl, rfl, rfl, hQ, hx, hb, hown, hts, hK, hN, hml, hr, hlk, hnm, hsz0⟩ := X
  obtain ⟨⟨scr, z1, z2, z3, z4, z5⟩, z6, z7⟩ := Z
  intro H locs ls hR hA hz hS hl
  have hcl : H[b]? = some scr := (hS.2.1 b z6 z7).trans z1
  exact W.alen hx hb hcl z2 (by rw [z4]; exact Int32.ofInt_eq_ofNat.symm) rfl rfl hd (kk H locs ls hR hA hz hS hl)
theorem go_scr (X : Cx l D cc own nm nL ret d mc ms sh0 sz0 Po g) (Z : z_C b N xs g) {i : Int} (hN1 : N < 2147483648) (hi : 0 ≤ i ∧ i < N) (hd : decode cc pc = .ok (.iaload, 1)) (kk : Go g k n sh M sz (pc + 1) lv (vi (scr_ xs i) :: r)) : Go g k n sh M sz pc lv (vi i :: vr (b : Int) :: r) := by
  obtain ⟨p, l', e, R, s, m, args, below, meth, c, D', A, Q, nL'⟩ := g
  obtain ⟨rfl, rfl, rfl, rfl, rfl, hQ, hx, hb, hown, hts, hK, hN, hml, hr, hlk, hnm, hsz0⟩ := X
  obtain ⟨⟨scr, z1, z2, z3, z4, z5⟩, z6, z7⟩ := Z
  intro H locs ls hR hA hz hS hl
  have hcl : H[b]? = some scr := (hS.2.1 b z6 z7).trans z1
  have hin : vp_in (Int32.ofInt i) N := n_in hi.1 hi.2 hN1
  have hcl0 : (Int32.ofInt i).toNatClampNeg = i.toNat := n_clamp (by omega)
  refine W.iald (v := vi (scr_ xs i)) hx hb hcl z2 z3 (by rw [z4]; exact hin) ?_ rfl rfl hd (kk H locs ls hR hA hz hS hl)
  rw [hcl0, z5 i.toNat (by omega)]
  show some (Value.int (xs i.toNat)) = some (Value.int (Int32.ofInt (xs i.toNat).toInt))
  rw [Int32.ofInt_toInt]
end GoScript
theorem mks.mv {sh sh' : s_S} {M M' : s_M} {r : Int} (h : mks sh M r mL) (hu : as_ r (r + 29) sh M sh' M') : mks sh' M' r mL := by
  have hoff : mL.all (fun q => decide (1 ≤ q.2.2.2) && decide (q.2.2.2 ≤ 28)) = true := by decide
  obtain ⟨h1, h2, h3, h4⟩ := h
  have e := hu r (by omega) (by omega)
  refine ⟨by rw [e.1]; exact h1, h2, fun j q hq => ?_, fun f hf => by rw [e.2]; exact h4 f hf⟩
  have g1 := List.all_eq_true.mp hoff q (List.mem_of_getElem? hq)
  simp only [Bool.and_eq_true, decide_eq_true_eq] at g1
  have e2 := hu (r + q.2.2.2) (by omega) (by omega)
  obtain ⟨k1, k2, k3, k4⟩ := h3 j q hq
  exact ⟨k1, by rw [e2.1]; exact k2, by rw [e2.2]; exact k3, by rw [e.2]; exact k4⟩
theorem lw_ini : Cond.initialized "CiteForgeLaw" ∈ wAll := w_of1 0 (by decide +kernel) rfl
theorem lw_write_c : Cond.codeWith y_Law_write method_3_code 6 (some .int) [(0, 11, 14, 13), (0, 11, 18, 15)] ∈ wAll := w_of3 128 (by decide +kernel) rfl
theorem lw_write_l : Cond.methodLink "CiteForgeLaw" 74 y_Law_write ∈ wAll := w_of3 126 (by decide +kernel) rfl
theorem lw_write_s : Cond.static y_Law_write ∈ wAll := w_of3 127 (by decide +kernel) rfl
theorem lw_cite_c : Cond.codeWith y_Law_cite method_4_code 5 (some .int) [(0, 16, 19, 13), (0, 16, 23, 15)] ∈ wAll := w_of3 235 (by decide +kernel) rfl
theorem lw_cite_l : Cond.methodLink "CiteForgeLaw" 92 y_Law_cite ∈ wAll := w_of3 233 (by decide +kernel) rfl
theorem lw_cite_s : Cond.static y_Law_cite ∈ wAll := w_of3 234 (by decide +kernel) rfl
theorem lw_list_c : Cond.codeWith y_Law_list method_5_code 4 (some .int) [(0, 9, 12, 13)] ∈ wAll := w_of4 22 (by decide +kernel) rfl
theorem lw_list_l : Cond.methodLink "CiteForgeLaw" 100 y_Law_list ∈ wAll := w_of4 20 (by decide +kernel) rfl
theorem lw_list_s : Cond.static y_Law_list ∈ wAll := w_of4 21 (by decide +kernel) rfl
theorem lw_key_c : Cond.codeWith y_Law_key method_6_code 4 (some .int) [(0, 8, 11, 29)] ∈ wAll := w_of4 53 (by decide +kernel) rfl
theorem lw_key_l : Cond.methodLink "CiteForgeLaw" 104 y_Law_key ∈ wAll := w_of4 51 (by decide +kernel) rfl
theorem lw_key_s : Cond.static y_Law_key ∈ wAll := w_of4 52 (by decide +kernel) rfl
theorem lw_field_c : Cond.codeWith y_Law_field method_7_code 7 (some .int) [(0, 13, 16, 29), (0, 13, 20, 35)] ∈ wAll := w_of4 84 (by decide +kernel) rfl
theorem lw_field_l : Cond.methodLink "CiteForgeLaw" 112 y_Law_field ∈ wAll := w_of4 82 (by decide +kernel) rfl
theorem lw_field_s : Cond.static y_Law_field ∈ wAll := w_of4 83 (by decide +kernel) rfl
theorem lw_define_c : Cond.codeWith y_Law_define method_8_code 7 (some .int) [(0, 12, 15, 13), (0, 12, 19, 15)] ∈ wAll := w_of4 118 (by decide +kernel) rfl
theorem lw_define_l : Cond.methodLink "CiteForgeLaw" 116 y_Law_define ∈ wAll := w_of4 116 (by decide +kernel) rfl
theorem lw_define_s : Cond.static y_Law_define ∈ wAll := w_of4 117 (by decide +kernel) rfl
theorem lw_clear_c : Cond.codeWith y_Law_clear method_9_code 4 (some .int) [(0, 9, 12, 13)] ∈ wAll := w_of4 142 (by decide +kernel) rfl
theorem lw_clear_l : Cond.methodLink "CiteForgeLaw" 120 y_Law_clear ∈ wAll := w_of4 140 (by decide +kernel) rfl
theorem lw_clear_s : Cond.static y_Law_clear ∈ wAll := w_of4 141 (by decide +kernel) rfl
theorem lw_run_c : Cond.codeWith y_Law_run method_10_code 5 (some .int) [(0, 10, 13, 13), (0, 10, 17, 48)] ∈ wAll := w_of4 153 (by decide +kernel) rfl
theorem lw_run_l : Cond.methodLink "CiteForgeLaw" 123 y_Law_run ∈ wAll := w_of4 151 (by decide +kernel) rfl
theorem lw_run_s : Cond.static y_Law_run ∈ wAll := w_of4 152 (by decide +kernel) rfl
theorem lw_kind_c : Cond.codeWith y_Law_kind method_11_code 4 (some .int) [(0, 9, 12, 29)] ∈ wAll := w_of5 214 (by decide +kernel) rfl
theorem lw_kind_l : Cond.methodLink "CiteForgeLaw" 131 y_Law_kind ∈ wAll := w_of5 212 (by decide +kernel) rfl
theorem lw_kind_s : Cond.static y_Law_kind ∈ wAll := w_of5 213 (by decide +kernel) rfl
theorem lw_value_c : Cond.codeWith y_Law_value method_12_code 4 (some .int) [(0, 9, 12, 29)] ∈ wAll := w_of5 229 (by decide +kernel) rfl
theorem lw_value_l : Cond.methodLink "CiteForgeLaw" 134 y_Law_value ∈ wAll := w_of5 227 (by decide +kernel) rfl
theorem lw_value_s : Cond.static y_Law_value ∈ wAll := w_of5 228 (by decide +kernel) rfl
theorem lw_letter_c : Cond.codeWith y_Law_letter method_13_code 5 (some .int) [(0, 10, 13, 29)] ∈ wAll := w_of5 237 (by decide +kernel) rfl
theorem lw_letter_l : Cond.methodLink "CiteForgeLaw" 137 y_Law_letter ∈ wAll := w_of5 235 (by decide +kernel) rfl
theorem lw_letter_s : Cond.static y_Law_letter ∈ wAll := w_of5 236 (by decide +kernel) rfl
theorem lw_line_c : Cond.codeWith y_Law_line method_14_code 5 (some .int) [(0, 10, 13, 35), (0, 10, 17, 29)] ∈ wAll := w_of6 4 (by decide +kernel) rfl
theorem lw_line_l : Cond.methodLink "CiteForgeLaw" 144 y_Law_line ∈ wAll := w_of6 2 (by decide +kernel) rfl
theorem lw_line_s : Cond.static y_Law_line ∈ wAll := w_of6 3 (by decide +kernel) rfl
theorem lw_count_c : Cond.codeWith y_Law_count method_15_code 4 (some .int) [(0, 9, 12, 29)] ∈ wAll := w_of6 19 (by decide +kernel) rfl
theorem lw_count_l : Cond.methodLink "CiteForgeLaw" 147 y_Law_count ∈ wAll := w_of6 17 (by decide +kernel) rfl
theorem lw_count_s : Cond.static y_Law_count ∈ wAll := w_of6 18 (by decide +kernel) rfl
theorem lw_warnings_c : Cond.codeWith y_Law_warnings method_16_code 4 (some .int) [(0, 9, 12, 29)] ∈ wAll := w_of6 38 (by decide +kernel) rfl
theorem lw_warnings_l : Cond.methodLink "CiteForgeLaw" 150 y_Law_warnings ∈ wAll := w_of6 36 (by decide +kernel) rfl
theorem lw_warnings_s : Cond.static y_Law_warnings ∈ wAll := w_of6 37 (by decide +kernel) rfl
theorem d_Law_law_0 : decode code 0 = .ok (.new 8, 3) := by decide +kernel
theorem d_Law_law_3 : decode code 3 = .ok (.dup, 1) := by decide +kernel
theorem d_Law_law_4 : decode code 4 = .ok (.invokespecial 68, 3) := by decide +kernel
theorem d_Law_law_7 : decode code 7 = .ok (.astore_n 1, 1) := by decide +kernel
theorem d_Law_law_8 : decode code 8 = .ok (.new 69, 3) := by decide +kernel
theorem d_Law_law_11 : decode code 11 = .ok (.dup, 1) := by decide +kernel
theorem d_Law_law_12 : decode code 12 = .ok (.invokespecial 71, 3) := by decide +kernel
theorem d_Law_law_15 : decode code 15 = .ok (.astore_n 2, 1) := by decide +kernel
theorem d_Law_law_16 : decode code 16 = .ok (.iconst 1, 1) := by decide +kernel
theorem d_Law_law_17 : decode code 17 = .ok (.newarray .long, 2) := by decide +kernel
theorem d_Law_law_19 : decode code 19 = .ok (.astore_n 3, 1) := by decide +kernel
theorem d_Law_law_20 : decode code 20 = .ok (.iconst 0, 1) := by decide +kernel
theorem d_Law_law_21 : decode code 21 = .ok (.istore 4, 2) := by decide +kernel
theorem d_Law_law_23 : decode code 23 = .ok (.iload 4, 2) := by decide +kernel
theorem d_Law_law_25 : decode code 25 = .ok (.aload_n 0, 1) := by decide +kernel
theorem d_Law_law_26 : decode code 26 = .ok (.arraylength, 1) := by decide +kernel
theorem d_Law_law_27 : decode code 27 = .ok (.iconst 5, 1) := by decide +kernel
theorem d_Law_law_28 : decode code 28 = .ok (.isub, 1) := by decide +kernel
theorem d_Law_law_29 : decode code 29 = .ok (.if_icmp .gt 1201, 3) := by decide +kernel
theorem d_Law_law_32 : decode code 32 = .ok (.aload_n 0, 1) := by decide +kernel
theorem d_Law_law_33 : decode code 33 = .ok (.iload 4, 2) := by decide +kernel
theorem d_Law_law_35 : decode code 35 = .ok (.iaload, 1) := by decide +kernel
theorem d_Law_law_36 : decode code 36 = .ok (.bipush 31, 2) := by decide +kernel
theorem d_Law_law_38 : decode code 38 = .ok (.iand, 1) := by decide +kernel
theorem d_Law_law_39 : decode code 39 = .ok (.tableswitch 1185 0 19 #[93, 193, 206, 219, 314, 327, 383, 438, 451, 563, 675, 731, 799, 812, 868, 924, 992, 1005, 1073, 1129], 93) := by decide +kernel
theorem d_Law_law_132 : decode code 132 = .ok (.aload_n 1, 1) := by decide +kernel
theorem d_Law_law_133 : decode code 133 = .ok (.aload_n 0, 1) := by decide +kernel
theorem d_Law_law_134 : decode code 134 = .ok (.iload 4, 2) := by decide +kernel
theorem d_Law_law_136 : decode code 136 = .ok (.iconst 1, 1) := by decide +kernel
theorem d_Law_law_137 : decode code 137 = .ok (.iadd, 1) := by decide +kernel
theorem d_Law_law_138 : decode code 138 = .ok (.iaload, 1) := by decide +kernel
theorem d_Law_law_139 : decode code 139 = .ok (.i2l, 1) := by decide +kernel
theorem d_Law_law_140 : decode code 140 = .ok (.bipush 32, 2) := by decide +kernel
theorem d_Law_law_142 : decode code 142 = .ok (.lshl, 1) := by decide +kernel
theorem d_Law_law_143 : decode code 143 = .ok (.aload_n 0, 1) := by decide +kernel
theorem d_Law_law_144 : decode code 144 = .ok (.iload 4, 2) := by decide +kernel
theorem d_Law_law_146 : decode code 146 = .ok (.iconst 2, 1) := by decide +kernel
theorem d_Law_law_147 : decode code 147 = .ok (.iadd, 1) := by decide +kernel
theorem d_Law_law_148 : decode code 148 = .ok (.iaload, 1) := by decide +kernel
theorem d_Law_law_149 : decode code 149 = .ok (.i2l, 1) := by decide +kernel
theorem d_Law_law_150 : decode code 150 = .ok (.ldc2_w 72, 3) := by decide +kernel
theorem d_Law_law_153 : decode code 153 = .ok (.land, 1) := by decide +kernel
theorem d_Law_law_154 : decode code 154 = .ok (.lor, 1) := by decide +kernel
theorem d_Law_law_155 : decode code 155 = .ok (.aload_n 0, 1) := by decide +kernel
theorem d_Law_law_156 : decode code 156 = .ok (.iload 4, 2) := by decide +kernel
theorem d_Law_law_158 : decode code 158 = .ok (.iconst 3, 1) := by decide +kernel
theorem d_Law_law_159 : decode code 159 = .ok (.iadd, 1) := by decide +kernel
theorem d_Law_law_160 : decode code 160 = .ok (.iaload, 1) := by decide +kernel
theorem d_Law_law_161 : decode code 161 = .ok (.aload_n 3, 1) := by decide +kernel
theorem d_Law_law_162 : decode code 162 = .ok (.invokestatic 74, 3) := by decide +kernel
theorem d_Law_law_165 : decode code 165 = .ok (.istore 5, 2) := by decide +kernel
theorem d_Law_law_167 : decode code 167 = .ok (.aload_n 2, 1) := by decide +kernel
theorem d_Law_law_168 : decode code 168 = .ok (.aload_n 0, 1) := by decide +kernel
theorem d_Law_law_169 : decode code 169 = .ok (.iload 4, 2) := by decide +kernel
theorem d_Law_law_171 : decode code 171 = .ok (.iconst 1, 1) := by decide +kernel
theorem d_Law_law_172 : decode code 172 = .ok (.iadd, 1) := by decide +kernel
theorem d_Law_law_173 : decode code 173 = .ok (.iaload, 1) := by decide +kernel
theorem d_Law_law_174 : decode code 174 = .ok (.i2l, 1) := by decide +kernel
theorem d_Law_law_175 : decode code 175 = .ok (.bipush 32, 2) := by decide +kernel
theorem d_Law_law_177 : decode code 177 = .ok (.lshl, 1) := by decide +kernel
theorem d_Law_law_178 : decode code 178 = .ok (.aload_n 0, 1) := by decide +kernel
theorem d_Law_law_179 : decode code 179 = .ok (.iload 4, 2) := by decide +kernel
theorem d_Law_law_181 : decode code 181 = .ok (.iconst 2, 1) := by decide +kernel
theorem d_Law_law_182 : decode code 182 = .ok (.iadd, 1) := by decide +kernel
theorem d_Law_law_183 : decode code 183 = .ok (.iaload, 1) := by decide +kernel
theorem d_Law_law_184 : decode code 184 = .ok (.i2l, 1) := by decide +kernel
theorem d_Law_law_185 : decode code 185 = .ok (.ldc2_w 72, 3) := by decide +kernel
theorem d_Law_law_188 : decode code 188 = .ok (.land, 1) := by decide +kernel
theorem d_Law_law_189 : decode code 189 = .ok (.lor, 1) := by decide +kernel
theorem d_Law_law_190 : decode code 190 = .ok (.aload_n 0, 1) := by decide +kernel
theorem d_Law_law_191 : decode code 191 = .ok (.iload 4, 2) := by decide +kernel
theorem d_Law_law_193 : decode code 193 = .ok (.iconst 3, 1) := by decide +kernel
theorem d_Law_law_194 : decode code 194 = .ok (.iadd, 1) := by decide +kernel
theorem d_Law_law_195 : decode code 195 = .ok (.iaload, 1) := by decide +kernel
theorem d_Law_law_196 : decode code 196 = .ok (.invokevirtual 79, 3) := by decide +kernel
theorem d_Law_law_199 : decode code 199 = .ok (.istore 6, 2) := by decide +kernel
theorem d_Law_law_201 : decode code 201 = .ok (.aload_n 2, 1) := by decide +kernel
theorem d_Law_law_202 : decode code 202 = .ok (.invokevirtual 80, 3) := by decide +kernel
theorem d_Law_law_205 : decode code 205 = .ok (.iload 5, 2) := by decide +kernel
theorem d_Law_law_207 : decode code 207 = .ok (.if_icmp .eq 5, 3) := by decide +kernel
theorem d_Law_law_210 : decode code 210 = .ok (.iconst 0, 1) := by decide +kernel
theorem d_Law_law_211 : decode code 211 = .ok (.ireturn, 1) := by decide +kernel
theorem d_Law_law_212 : decode code 212 = .ok (.iload 5, 2) := by decide +kernel
theorem d_Law_law_214 : decode code 214 = .ok (.ifCond .ne 15, 3) := by decide +kernel
theorem d_Law_law_217 : decode code 217 = .ok (.aload_n 3, 1) := by decide +kernel
theorem d_Law_law_218 : decode code 218 = .ok (.iconst 0, 1) := by decide +kernel
theorem d_Law_law_219 : decode code 219 = .ok (.laload, 1) := by decide +kernel
theorem d_Law_law_220 : decode code 220 = .ok (.iload 6, 2) := by decide +kernel
theorem d_Law_law_222 : decode code 222 = .ok (.i2l, 1) := by decide +kernel
theorem d_Law_law_223 : decode code 223 = .ok (.lcmp, 1) := by decide +kernel
theorem d_Law_law_224 : decode code 224 = .ok (.ifCond .eq 5, 3) := by decide +kernel
theorem d_Law_law_227 : decode code 227 = .ok (.iconst 0, 1) := by decide +kernel
theorem d_Law_law_228 : decode code 228 = .ok (.ireturn, 1) := by decide +kernel
theorem d_Law_law_229 : decode code 229 = .ok (.goto 995, 3) := by decide +kernel
theorem d_Law_law_232 : decode code 232 = .ok (.aload_n 1, 1) := by decide +kernel
theorem d_Law_law_233 : decode code 233 = .ok (.invokevirtual 84, 3) := by decide +kernel
theorem d_Law_law_236 : decode code 236 = .ok (.aload_n 2, 1) := by decide +kernel
theorem d_Law_law_237 : decode code 237 = .ok (.invokevirtual 87, 3) := by decide +kernel
theorem d_Law_law_240 : decode code 240 = .ok (.if_icmp .eq 984, 3) := by decide +kernel
theorem d_Law_law_243 : decode code 243 = .ok (.iconst 0, 1) := by decide +kernel
theorem d_Law_law_244 : decode code 244 = .ok (.ireturn, 1) := by decide +kernel
theorem d_Law_law_245 : decode code 245 = .ok (.aload_n 1, 1) := by decide +kernel
theorem d_Law_law_246 : decode code 246 = .ok (.invokevirtual 88, 3) := by decide +kernel
theorem d_Law_law_249 : decode code 249 = .ok (.aload_n 2, 1) := by decide +kernel
theorem d_Law_law_250 : decode code 250 = .ok (.invokevirtual 91, 3) := by decide +kernel
theorem d_Law_law_253 : decode code 253 = .ok (.if_icmp .eq 971, 3) := by decide +kernel
theorem d_Law_law_256 : decode code 256 = .ok (.iconst 0, 1) := by decide +kernel
theorem d_Law_law_257 : decode code 257 = .ok (.ireturn, 1) := by decide +kernel
theorem d_Law_law_258 : decode code 258 = .ok (.aload_n 1, 1) := by decide +kernel
theorem d_Law_law_259 : decode code 259 = .ok (.aload_n 0, 1) := by decide +kernel
theorem d_Law_law_260 : decode code 260 = .ok (.iload 4, 2) := by decide +kernel
theorem d_Law_law_262 : decode code 262 = .ok (.iconst 1, 1) := by decide +kernel
theorem d_Law_law_263 : decode code 263 = .ok (.iadd, 1) := by decide +kernel
theorem d_Law_law_264 : decode code 264 = .ok (.iaload, 1) := by decide +kernel
theorem d_Law_law_265 : decode code 265 = .ok (.i2l, 1) := by decide +kernel
theorem d_Law_law_266 : decode code 266 = .ok (.bipush 32, 2) := by decide +kernel
theorem d_Law_law_268 : decode code 268 = .ok (.lshl, 1) := by decide +kernel
theorem d_Law_law_269 : decode code 269 = .ok (.aload_n 0, 1) := by decide +kernel
theorem d_Law_law_270 : decode code 270 = .ok (.iload 4, 2) := by decide +kernel
theorem d_Law_law_272 : decode code 272 = .ok (.iconst 2, 1) := by decide +kernel
theorem d_Law_law_273 : decode code 273 = .ok (.iadd, 1) := by decide +kernel
theorem d_Law_law_274 : decode code 274 = .ok (.iaload, 1) := by decide +kernel
theorem d_Law_law_275 : decode code 275 = .ok (.i2l, 1) := by decide +kernel
theorem d_Law_law_276 : decode code 276 = .ok (.ldc2_w 72, 3) := by decide +kernel
theorem d_Law_law_279 : decode code 279 = .ok (.land, 1) := by decide +kernel
theorem d_Law_law_280 : decode code 280 = .ok (.lor, 1) := by decide +kernel
theorem d_Law_law_281 : decode code 281 = .ok (.aload_n 3, 1) := by decide +kernel
theorem d_Law_law_282 : decode code 282 = .ok (.invokestatic 92, 3) := by decide +kernel
theorem d_Law_law_285 : decode code 285 = .ok (.istore 5, 2) := by decide +kernel
theorem d_Law_law_287 : decode code 287 = .ok (.aload_n 2, 1) := by decide +kernel
theorem d_Law_law_288 : decode code 288 = .ok (.aload_n 0, 1) := by decide +kernel
theorem d_Law_law_289 : decode code 289 = .ok (.iload 4, 2) := by decide +kernel
theorem d_Law_law_291 : decode code 291 = .ok (.iconst 1, 1) := by decide +kernel
theorem d_Law_law_292 : decode code 292 = .ok (.iadd, 1) := by decide +kernel
theorem d_Law_law_293 : decode code 293 = .ok (.iaload, 1) := by decide +kernel
theorem d_Law_law_294 : decode code 294 = .ok (.i2l, 1) := by decide +kernel
theorem d_Law_law_295 : decode code 295 = .ok (.bipush 32, 2) := by decide +kernel
theorem d_Law_law_297 : decode code 297 = .ok (.lshl, 1) := by decide +kernel
theorem d_Law_law_298 : decode code 298 = .ok (.aload_n 0, 1) := by decide +kernel
theorem d_Law_law_299 : decode code 299 = .ok (.iload 4, 2) := by decide +kernel
theorem d_Law_law_301 : decode code 301 = .ok (.iconst 2, 1) := by decide +kernel
theorem d_Law_law_302 : decode code 302 = .ok (.iadd, 1) := by decide +kernel
theorem d_Law_law_303 : decode code 303 = .ok (.iaload, 1) := by decide +kernel
theorem d_Law_law_304 : decode code 304 = .ok (.i2l, 1) := by decide +kernel
theorem d_Law_law_305 : decode code 305 = .ok (.ldc2_w 72, 3) := by decide +kernel
theorem d_Law_law_308 : decode code 308 = .ok (.land, 1) := by decide +kernel
theorem d_Law_law_309 : decode code 309 = .ok (.lor, 1) := by decide +kernel
theorem d_Law_law_310 : decode code 310 = .ok (.invokevirtual 95, 3) := by decide +kernel
theorem d_Law_law_313 : decode code 313 = .ok (.istore 6, 2) := by decide +kernel
theorem d_Law_law_315 : decode code 315 = .ok (.aload_n 2, 1) := by decide +kernel
theorem d_Law_law_316 : decode code 316 = .ok (.invokevirtual 80, 3) := by decide +kernel
theorem d_Law_law_319 : decode code 319 = .ok (.iload 5, 2) := by decide +kernel
theorem d_Law_law_321 : decode code 321 = .ok (.if_icmp .eq 5, 3) := by decide +kernel
theorem d_Law_law_324 : decode code 324 = .ok (.iconst 0, 1) := by decide +kernel
theorem d_Law_law_325 : decode code 325 = .ok (.ireturn, 1) := by decide +kernel
theorem d_Law_law_326 : decode code 326 = .ok (.iload 5, 2) := by decide +kernel
theorem d_Law_law_328 : decode code 328 = .ok (.ifCond .ne 22, 3) := by decide +kernel
theorem d_Law_law_331 : decode code 331 = .ok (.aload_n 3, 1) := by decide +kernel
theorem d_Law_law_332 : decode code 332 = .ok (.iconst 0, 1) := by decide +kernel
theorem d_Law_law_333 : decode code 333 = .ok (.laload, 1) := by decide +kernel
theorem d_Law_law_334 : decode code 334 = .ok (.iload 6, 2) := by decide +kernel
theorem d_Law_law_336 : decode code 336 = .ok (.ifCond .eq 7, 3) := by decide +kernel
theorem d_Law_law_339 : decode code 339 = .ok (.lconst 1, 1) := by decide +kernel
theorem d_Law_law_340 : decode code 340 = .ok (.goto 4, 3) := by decide +kernel
theorem d_Law_law_343 : decode code 343 = .ok (.lconst 0, 1) := by decide +kernel
theorem d_Law_law_344 : decode code 344 = .ok (.lcmp, 1) := by decide +kernel
theorem d_Law_law_345 : decode code 345 = .ok (.ifCond .eq 5, 3) := by decide +kernel
theorem d_Law_law_348 : decode code 348 = .ok (.iconst 0, 1) := by decide +kernel
theorem d_Law_law_349 : decode code 349 = .ok (.ireturn, 1) := by decide +kernel
theorem d_Law_law_350 : decode code 350 = .ok (.goto 874, 3) := by decide +kernel
theorem d_Law_law_353 : decode code 353 = .ok (.aload_n 1, 1) := by decide +kernel
theorem d_Law_law_354 : decode code 354 = .ok (.invokevirtual 96, 3) := by decide +kernel
theorem d_Law_law_357 : decode code 357 = .ok (.aload_n 2, 1) := by decide +kernel
theorem d_Law_law_358 : decode code 358 = .ok (.invokevirtual 99, 3) := by decide +kernel
theorem d_Law_law_361 : decode code 361 = .ok (.if_icmp .eq 863, 3) := by decide +kernel
theorem d_Law_law_364 : decode code 364 = .ok (.iconst 0, 1) := by decide +kernel
theorem d_Law_law_365 : decode code 365 = .ok (.ireturn, 1) := by decide +kernel
theorem d_Law_law_366 : decode code 366 = .ok (.aload_n 1, 1) := by decide +kernel
theorem d_Law_law_367 : decode code 367 = .ok (.aload_n 0, 1) := by decide +kernel
theorem d_Law_law_368 : decode code 368 = .ok (.iload 4, 2) := by decide +kernel
theorem d_Law_law_370 : decode code 370 = .ok (.iconst 1, 1) := by decide +kernel
theorem d_Law_law_371 : decode code 371 = .ok (.iadd, 1) := by decide +kernel
theorem d_Law_law_372 : decode code 372 = .ok (.iaload, 1) := by decide +kernel
theorem d_Law_law_373 : decode code 373 = .ok (.aload_n 3, 1) := by decide +kernel
theorem d_Law_law_374 : decode code 374 = .ok (.invokestatic 100, 3) := by decide +kernel
theorem d_Law_law_377 : decode code 377 = .ok (.istore 5, 2) := by decide +kernel
theorem d_Law_law_379 : decode code 379 = .ok (.aload_n 2, 1) := by decide +kernel
theorem d_Law_law_380 : decode code 380 = .ok (.aload_n 0, 1) := by decide +kernel
theorem d_Law_law_381 : decode code 381 = .ok (.iload 4, 2) := by decide +kernel
theorem d_Law_law_383 : decode code 383 = .ok (.iconst 1, 1) := by decide +kernel
theorem d_Law_law_384 : decode code 384 = .ok (.iadd, 1) := by decide +kernel
theorem d_Law_law_385 : decode code 385 = .ok (.iaload, 1) := by decide +kernel
theorem d_Law_law_386 : decode code 386 = .ok (.invokevirtual 103, 3) := by decide +kernel
theorem d_Law_law_389 : decode code 389 = .ok (.istore 6, 2) := by decide +kernel
theorem d_Law_law_391 : decode code 391 = .ok (.aload_n 2, 1) := by decide +kernel
theorem d_Law_law_392 : decode code 392 = .ok (.invokevirtual 80, 3) := by decide +kernel
theorem d_Law_law_395 : decode code 395 = .ok (.iload 5, 2) := by decide +kernel
theorem d_Law_law_397 : decode code 397 = .ok (.if_icmp .eq 5, 3) := by decide +kernel
theorem d_Law_law_400 : decode code 400 = .ok (.iconst 0, 1) := by decide +kernel
theorem d_Law_law_401 : decode code 401 = .ok (.ireturn, 1) := by decide +kernel
theorem d_Law_law_402 : decode code 402 = .ok (.iload 5, 2) := by decide +kernel
theorem d_Law_law_404 : decode code 404 = .ok (.ifCond .ne 15, 3) := by decide +kernel
theorem d_Law_law_407 : decode code 407 = .ok (.aload_n 3, 1) := by decide +kernel
theorem d_Law_law_408 : decode code 408 = .ok (.iconst 0, 1) := by decide +kernel
theorem d_Law_law_409 : decode code 409 = .ok (.laload, 1) := by decide +kernel
theorem d_Law_law_410 : decode code 410 = .ok (.iload 6, 2) := by decide +kernel
theorem d_Law_law_412 : decode code 412 = .ok (.i2l, 1) := by decide +kernel
theorem d_Law_law_413 : decode code 413 = .ok (.lcmp, 1) := by decide +kernel
theorem d_Law_law_414 : decode code 414 = .ok (.ifCond .eq 5, 3) := by decide +kernel
theorem d_Law_law_417 : decode code 417 = .ok (.iconst 0, 1) := by decide +kernel
theorem d_Law_law_418 : decode code 418 = .ok (.ireturn, 1) := by decide +kernel
theorem d_Law_law_419 : decode code 419 = .ok (.goto 805, 3) := by decide +kernel
theorem d_Law_law_422 : decode code 422 = .ok (.aload_n 1, 1) := by decide +kernel
theorem d_Law_law_423 : decode code 423 = .ok (.aload_n 0, 1) := by decide +kernel
theorem d_Law_law_424 : decode code 424 = .ok (.iload 4, 2) := by decide +kernel
theorem d_Law_law_426 : decode code 426 = .ok (.iconst 1, 1) := by decide +kernel
theorem d_Law_law_427 : decode code 427 = .ok (.iadd, 1) := by decide +kernel
theorem d_Law_law_428 : decode code 428 = .ok (.iaload, 1) := by decide +kernel
theorem d_Law_law_429 : decode code 429 = .ok (.aload_n 3, 1) := by decide +kernel
theorem d_Law_law_430 : decode code 430 = .ok (.invokestatic 104, 3) := by decide +kernel
theorem d_Law_law_433 : decode code 433 = .ok (.istore 5, 2) := by decide +kernel
theorem d_Law_law_435 : decode code 435 = .ok (.aload_n 2, 1) := by decide +kernel
theorem d_Law_law_436 : decode code 436 = .ok (.aload_n 0, 1) := by decide +kernel
theorem d_Law_law_437 : decode code 437 = .ok (.iload 4, 2) := by decide +kernel
theorem d_Law_law_439 : decode code 439 = .ok (.iconst 1, 1) := by decide +kernel
theorem d_Law_law_440 : decode code 440 = .ok (.iadd, 1) := by decide +kernel
theorem d_Law_law_441 : decode code 441 = .ok (.iaload, 1) := by decide +kernel
theorem d_Law_law_442 : decode code 442 = .ok (.invokevirtual 106, 3) := by decide +kernel
theorem d_Law_law_445 : decode code 445 = .ok (.lstore 6, 2) := by decide +kernel
theorem d_Law_law_447 : decode code 447 = .ok (.aload_n 2, 1) := by decide +kernel
theorem d_Law_law_448 : decode code 448 = .ok (.invokevirtual 80, 3) := by decide +kernel
theorem d_Law_law_451 : decode code 451 = .ok (.iload 5, 2) := by decide +kernel
theorem d_Law_law_453 : decode code 453 = .ok (.if_icmp .eq 5, 3) := by decide +kernel
theorem d_Law_law_456 : decode code 456 = .ok (.iconst 0, 1) := by decide +kernel
theorem d_Law_law_457 : decode code 457 = .ok (.ireturn, 1) := by decide +kernel
theorem d_Law_law_458 : decode code 458 = .ok (.iload 5, 2) := by decide +kernel
theorem d_Law_law_460 : decode code 460 = .ok (.ifCond .ne 14, 3) := by decide +kernel
theorem d_Law_law_463 : decode code 463 = .ok (.aload_n 3, 1) := by decide +kernel
theorem d_Law_law_464 : decode code 464 = .ok (.iconst 0, 1) := by decide +kernel
theorem d_Law_law_465 : decode code 465 = .ok (.laload, 1) := by decide +kernel
theorem d_Law_law_466 : decode code 466 = .ok (.lload 6, 2) := by decide +kernel
theorem d_Law_law_468 : decode code 468 = .ok (.lcmp, 1) := by decide +kernel
theorem d_Law_law_469 : decode code 469 = .ok (.ifCond .eq 5, 3) := by decide +kernel
theorem d_Law_law_472 : decode code 472 = .ok (.iconst 0, 1) := by decide +kernel
theorem d_Law_law_473 : decode code 473 = .ok (.ireturn, 1) := by decide +kernel
theorem d_Law_law_474 : decode code 474 = .ok (.goto 750, 3) := by decide +kernel
theorem d_Law_law_477 : decode code 477 = .ok (.aload_n 1, 1) := by decide +kernel
theorem d_Law_law_478 : decode code 478 = .ok (.invokevirtual 107, 3) := by decide +kernel
theorem d_Law_law_481 : decode code 481 = .ok (.aload_n 2, 1) := by decide +kernel
theorem d_Law_law_482 : decode code 482 = .ok (.invokevirtual 111, 3) := by decide +kernel
theorem d_Law_law_485 : decode code 485 = .ok (.if_icmp .eq 739, 3) := by decide +kernel
theorem d_Law_law_488 : decode code 488 = .ok (.iconst 0, 1) := by decide +kernel
theorem d_Law_law_489 : decode code 489 = .ok (.ireturn, 1) := by decide +kernel
theorem d_Law_law_490 : decode code 490 = .ok (.aload_n 1, 1) := by decide +kernel
theorem d_Law_law_491 : decode code 491 = .ok (.aload_n 0, 1) := by decide +kernel
theorem d_Law_law_492 : decode code 492 = .ok (.iload 4, 2) := by decide +kernel
theorem d_Law_law_494 : decode code 494 = .ok (.iconst 1, 1) := by decide +kernel
theorem d_Law_law_495 : decode code 495 = .ok (.iadd, 1) := by decide +kernel
theorem d_Law_law_496 : decode code 496 = .ok (.iaload, 1) := by decide +kernel
theorem d_Law_law_497 : decode code 497 = .ok (.aload_n 0, 1) := by decide +kernel
theorem d_Law_law_498 : decode code 498 = .ok (.iload 4, 2) := by decide +kernel
theorem d_Law_law_500 : decode code 500 = .ok (.iconst 2, 1) := by decide +kernel
theorem d_Law_law_501 : decode code 501 = .ok (.iadd, 1) := by decide +kernel
theorem d_Law_law_502 : decode code 502 = .ok (.iaload, 1) := by decide +kernel
theorem d_Law_law_503 : decode code 503 = .ok (.i2l, 1) := by decide +kernel
theorem d_Law_law_504 : decode code 504 = .ok (.bipush 32, 2) := by decide +kernel
theorem d_Law_law_506 : decode code 506 = .ok (.lshl, 1) := by decide +kernel
theorem d_Law_law_507 : decode code 507 = .ok (.aload_n 0, 1) := by decide +kernel
theorem d_Law_law_508 : decode code 508 = .ok (.iload 4, 2) := by decide +kernel
theorem d_Law_law_510 : decode code 510 = .ok (.iconst 3, 1) := by decide +kernel
theorem d_Law_law_511 : decode code 511 = .ok (.iadd, 1) := by decide +kernel
theorem d_Law_law_512 : decode code 512 = .ok (.iaload, 1) := by decide +kernel
theorem d_Law_law_513 : decode code 513 = .ok (.i2l, 1) := by decide +kernel
theorem d_Law_law_514 : decode code 514 = .ok (.ldc2_w 72, 3) := by decide +kernel
theorem d_Law_law_517 : decode code 517 = .ok (.land, 1) := by decide +kernel
theorem d_Law_law_518 : decode code 518 = .ok (.lor, 1) := by decide +kernel
theorem d_Law_law_519 : decode code 519 = .ok (.aload_n 0, 1) := by decide +kernel
theorem d_Law_law_520 : decode code 520 = .ok (.iload 4, 2) := by decide +kernel
theorem d_Law_law_522 : decode code 522 = .ok (.iconst 4, 1) := by decide +kernel
theorem d_Law_law_523 : decode code 523 = .ok (.iadd, 1) := by decide +kernel
theorem d_Law_law_524 : decode code 524 = .ok (.iaload, 1) := by decide +kernel
theorem d_Law_law_525 : decode code 525 = .ok (.aload_n 3, 1) := by decide +kernel
theorem d_Law_law_526 : decode code 526 = .ok (.invokestatic 112, 3) := by decide +kernel
theorem d_Law_law_529 : decode code 529 = .ok (.istore 5, 2) := by decide +kernel
theorem d_Law_law_531 : decode code 531 = .ok (.aload_n 2, 1) := by decide +kernel
theorem d_Law_law_532 : decode code 532 = .ok (.aload_n 0, 1) := by decide +kernel
theorem d_Law_law_533 : decode code 533 = .ok (.iload 4, 2) := by decide +kernel
theorem d_Law_law_535 : decode code 535 = .ok (.iconst 1, 1) := by decide +kernel
theorem d_Law_law_536 : decode code 536 = .ok (.iadd, 1) := by decide +kernel
theorem d_Law_law_537 : decode code 537 = .ok (.iaload, 1) := by decide +kernel
theorem d_Law_law_538 : decode code 538 = .ok (.aload_n 0, 1) := by decide +kernel
theorem d_Law_law_539 : decode code 539 = .ok (.iload 4, 2) := by decide +kernel
theorem d_Law_law_541 : decode code 541 = .ok (.iconst 2, 1) := by decide +kernel
theorem d_Law_law_542 : decode code 542 = .ok (.iadd, 1) := by decide +kernel
theorem d_Law_law_543 : decode code 543 = .ok (.iaload, 1) := by decide +kernel
theorem d_Law_law_544 : decode code 544 = .ok (.i2l, 1) := by decide +kernel
theorem d_Law_law_545 : decode code 545 = .ok (.bipush 32, 2) := by decide +kernel
theorem d_Law_law_547 : decode code 547 = .ok (.lshl, 1) := by decide +kernel
theorem d_Law_law_548 : decode code 548 = .ok (.aload_n 0, 1) := by decide +kernel
theorem d_Law_law_549 : decode code 549 = .ok (.iload 4, 2) := by decide +kernel
theorem d_Law_law_551 : decode code 551 = .ok (.iconst 3, 1) := by decide +kernel
theorem d_Law_law_552 : decode code 552 = .ok (.iadd, 1) := by decide +kernel
theorem d_Law_law_553 : decode code 553 = .ok (.iaload, 1) := by decide +kernel
theorem d_Law_law_554 : decode code 554 = .ok (.i2l, 1) := by decide +kernel
theorem d_Law_law_555 : decode code 555 = .ok (.ldc2_w 72, 3) := by decide +kernel
theorem d_Law_law_558 : decode code 558 = .ok (.land, 1) := by decide +kernel
theorem d_Law_law_559 : decode code 559 = .ok (.lor, 1) := by decide +kernel
theorem d_Law_law_560 : decode code 560 = .ok (.aload_n 0, 1) := by decide +kernel
theorem d_Law_law_561 : decode code 561 = .ok (.iload 4, 2) := by decide +kernel
theorem d_Law_law_563 : decode code 563 = .ok (.iconst 4, 1) := by decide +kernel
theorem d_Law_law_564 : decode code 564 = .ok (.iadd, 1) := by decide +kernel
theorem d_Law_law_565 : decode code 565 = .ok (.iaload, 1) := by decide +kernel
theorem d_Law_law_566 : decode code 566 = .ok (.invokevirtual 115, 3) := by decide +kernel
theorem d_Law_law_569 : decode code 569 = .ok (.istore 6, 2) := by decide +kernel
theorem d_Law_law_571 : decode code 571 = .ok (.aload_n 2, 1) := by decide +kernel
theorem d_Law_law_572 : decode code 572 = .ok (.invokevirtual 80, 3) := by decide +kernel
theorem d_Law_law_575 : decode code 575 = .ok (.iload 5, 2) := by decide +kernel
theorem d_Law_law_577 : decode code 577 = .ok (.if_icmp .eq 5, 3) := by decide +kernel
theorem d_Law_law_580 : decode code 580 = .ok (.iconst 0, 1) := by decide +kernel
theorem d_Law_law_581 : decode code 581 = .ok (.ireturn, 1) := by decide +kernel
theorem d_Law_law_582 : decode code 582 = .ok (.iload 5, 2) := by decide +kernel
theorem d_Law_law_584 : decode code 584 = .ok (.ifCond .ne 15, 3) := by decide +kernel
theorem d_Law_law_587 : decode code 587 = .ok (.aload_n 3, 1) := by decide +kernel
theorem d_Law_law_588 : decode code 588 = .ok (.iconst 0, 1) := by decide +kernel
theorem d_Law_law_589 : decode code 589 = .ok (.laload, 1) := by decide +kernel
theorem d_Law_law_590 : decode code 590 = .ok (.iload 6, 2) := by decide +kernel
theorem d_Law_law_592 : decode code 592 = .ok (.i2l, 1) := by decide +kernel
theorem d_Law_law_593 : decode code 593 = .ok (.lcmp, 1) := by decide +kernel
theorem d_Law_law_594 : decode code 594 = .ok (.ifCond .eq 5, 3) := by decide +kernel
theorem d_Law_law_597 : decode code 597 = .ok (.iconst 0, 1) := by decide +kernel
theorem d_Law_law_598 : decode code 598 = .ok (.ireturn, 1) := by decide +kernel
theorem d_Law_law_599 : decode code 599 = .ok (.goto 625, 3) := by decide +kernel
theorem d_Law_law_602 : decode code 602 = .ok (.aload_n 1, 1) := by decide +kernel
theorem d_Law_law_603 : decode code 603 = .ok (.aload_n 0, 1) := by decide +kernel
theorem d_Law_law_604 : decode code 604 = .ok (.iload 4, 2) := by decide +kernel
theorem d_Law_law_606 : decode code 606 = .ok (.iconst 1, 1) := by decide +kernel
theorem d_Law_law_607 : decode code 607 = .ok (.iadd, 1) := by decide +kernel
theorem d_Law_law_608 : decode code 608 = .ok (.iaload, 1) := by decide +kernel
theorem d_Law_law_609 : decode code 609 = .ok (.aload_n 0, 1) := by decide +kernel
theorem d_Law_law_610 : decode code 610 = .ok (.iload 4, 2) := by decide +kernel
theorem d_Law_law_612 : decode code 612 = .ok (.iconst 2, 1) := by decide +kernel
theorem d_Law_law_613 : decode code 613 = .ok (.iadd, 1) := by decide +kernel
theorem d_Law_law_614 : decode code 614 = .ok (.iaload, 1) := by decide +kernel
theorem d_Law_law_615 : decode code 615 = .ok (.aload_n 0, 1) := by decide +kernel
theorem d_Law_law_616 : decode code 616 = .ok (.iload 4, 2) := by decide +kernel
theorem d_Law_law_618 : decode code 618 = .ok (.iconst 3, 1) := by decide +kernel
theorem d_Law_law_619 : decode code 619 = .ok (.iadd, 1) := by decide +kernel
theorem d_Law_law_620 : decode code 620 = .ok (.iaload, 1) := by decide +kernel
theorem d_Law_law_621 : decode code 621 = .ok (.i2l, 1) := by decide +kernel
theorem d_Law_law_622 : decode code 622 = .ok (.bipush 32, 2) := by decide +kernel
theorem d_Law_law_624 : decode code 624 = .ok (.lshl, 1) := by decide +kernel
theorem d_Law_law_625 : decode code 625 = .ok (.aload_n 0, 1) := by decide +kernel
theorem d_Law_law_626 : decode code 626 = .ok (.iload 4, 2) := by decide +kernel
theorem d_Law_law_628 : decode code 628 = .ok (.iconst 4, 1) := by decide +kernel
theorem d_Law_law_629 : decode code 629 = .ok (.iadd, 1) := by decide +kernel
theorem d_Law_law_630 : decode code 630 = .ok (.iaload, 1) := by decide +kernel
theorem d_Law_law_631 : decode code 631 = .ok (.i2l, 1) := by decide +kernel
theorem d_Law_law_632 : decode code 632 = .ok (.ldc2_w 72, 3) := by decide +kernel
theorem d_Law_law_635 : decode code 635 = .ok (.land, 1) := by decide +kernel
theorem d_Law_law_636 : decode code 636 = .ok (.lor, 1) := by decide +kernel
theorem d_Law_law_637 : decode code 637 = .ok (.aload_n 3, 1) := by decide +kernel
theorem d_Law_law_638 : decode code 638 = .ok (.invokestatic 116, 3) := by decide +kernel
theorem d_Law_law_641 : decode code 641 = .ok (.istore 5, 2) := by decide +kernel
theorem d_Law_law_643 : decode code 643 = .ok (.aload_n 2, 1) := by decide +kernel
theorem d_Law_law_644 : decode code 644 = .ok (.aload_n 0, 1) := by decide +kernel
theorem d_Law_law_645 : decode code 645 = .ok (.iload 4, 2) := by decide +kernel
theorem d_Law_law_647 : decode code 647 = .ok (.iconst 1, 1) := by decide +kernel
theorem d_Law_law_648 : decode code 648 = .ok (.iadd, 1) := by decide +kernel
theorem d_Law_law_649 : decode code 649 = .ok (.iaload, 1) := by decide +kernel
theorem d_Law_law_650 : decode code 650 = .ok (.aload_n 0, 1) := by decide +kernel
theorem d_Law_law_651 : decode code 651 = .ok (.iload 4, 2) := by decide +kernel
theorem d_Law_law_653 : decode code 653 = .ok (.iconst 2, 1) := by decide +kernel
theorem d_Law_law_654 : decode code 654 = .ok (.iadd, 1) := by decide +kernel
theorem d_Law_law_655 : decode code 655 = .ok (.iaload, 1) := by decide +kernel
theorem d_Law_law_656 : decode code 656 = .ok (.aload_n 0, 1) := by decide +kernel
theorem d_Law_law_657 : decode code 657 = .ok (.iload 4, 2) := by decide +kernel
theorem d_Law_law_659 : decode code 659 = .ok (.iconst 3, 1) := by decide +kernel
theorem d_Law_law_660 : decode code 660 = .ok (.iadd, 1) := by decide +kernel
theorem d_Law_law_661 : decode code 661 = .ok (.iaload, 1) := by decide +kernel
theorem d_Law_law_662 : decode code 662 = .ok (.i2l, 1) := by decide +kernel
theorem d_Law_law_663 : decode code 663 = .ok (.bipush 32, 2) := by decide +kernel
theorem d_Law_law_665 : decode code 665 = .ok (.lshl, 1) := by decide +kernel
theorem d_Law_law_666 : decode code 666 = .ok (.aload_n 0, 1) := by decide +kernel
theorem d_Law_law_667 : decode code 667 = .ok (.iload 4, 2) := by decide +kernel
theorem d_Law_law_669 : decode code 669 = .ok (.iconst 4, 1) := by decide +kernel
theorem d_Law_law_670 : decode code 670 = .ok (.iadd, 1) := by decide +kernel
theorem d_Law_law_671 : decode code 671 = .ok (.iaload, 1) := by decide +kernel
theorem d_Law_law_672 : decode code 672 = .ok (.i2l, 1) := by decide +kernel
theorem d_Law_law_673 : decode code 673 = .ok (.ldc2_w 72, 3) := by decide +kernel
theorem d_Law_law_676 : decode code 676 = .ok (.land, 1) := by decide +kernel
theorem d_Law_law_677 : decode code 677 = .ok (.lor, 1) := by decide +kernel
theorem d_Law_law_678 : decode code 678 = .ok (.invokevirtual 119, 3) := by decide +kernel
theorem d_Law_law_681 : decode code 681 = .ok (.istore 6, 2) := by decide +kernel
theorem d_Law_law_683 : decode code 683 = .ok (.aload_n 2, 1) := by decide +kernel
theorem d_Law_law_684 : decode code 684 = .ok (.invokevirtual 80, 3) := by decide +kernel
theorem d_Law_law_687 : decode code 687 = .ok (.iload 5, 2) := by decide +kernel
theorem d_Law_law_689 : decode code 689 = .ok (.if_icmp .eq 5, 3) := by decide +kernel
theorem d_Law_law_692 : decode code 692 = .ok (.iconst 0, 1) := by decide +kernel
theorem d_Law_law_693 : decode code 693 = .ok (.ireturn, 1) := by decide +kernel
theorem d_Law_law_694 : decode code 694 = .ok (.iload 5, 2) := by decide +kernel
theorem d_Law_law_696 : decode code 696 = .ok (.ifCond .ne 15, 3) := by decide +kernel
theorem d_Law_law_699 : decode code 699 = .ok (.aload_n 3, 1) := by decide +kernel
theorem d_Law_law_700 : decode code 700 = .ok (.iconst 0, 1) := by decide +kernel
theorem d_Law_law_701 : decode code 701 = .ok (.laload, 1) := by decide +kernel
theorem d_Law_law_702 : decode code 702 = .ok (.iload 6, 2) := by decide +kernel
theorem d_Law_law_704 : decode code 704 = .ok (.i2l, 1) := by decide +kernel
theorem d_Law_law_705 : decode code 705 = .ok (.lcmp, 1) := by decide +kernel
theorem d_Law_law_706 : decode code 706 = .ok (.ifCond .eq 5, 3) := by decide +kernel
theorem d_Law_law_709 : decode code 709 = .ok (.iconst 0, 1) := by decide +kernel
theorem d_Law_law_710 : decode code 710 = .ok (.ireturn, 1) := by decide +kernel
theorem d_Law_law_711 : decode code 711 = .ok (.goto 513, 3) := by decide +kernel
theorem d_Law_law_714 : decode code 714 = .ok (.aload_n 1, 1) := by decide +kernel
theorem d_Law_law_715 : decode code 715 = .ok (.aload_n 0, 1) := by decide +kernel
theorem d_Law_law_716 : decode code 716 = .ok (.iload 4, 2) := by decide +kernel
theorem d_Law_law_718 : decode code 718 = .ok (.iconst 1, 1) := by decide +kernel
theorem d_Law_law_719 : decode code 719 = .ok (.iadd, 1) := by decide +kernel
theorem d_Law_law_720 : decode code 720 = .ok (.iaload, 1) := by decide +kernel
theorem d_Law_law_721 : decode code 721 = .ok (.aload_n 3, 1) := by decide +kernel
theorem d_Law_law_722 : decode code 722 = .ok (.invokestatic 120, 3) := by decide +kernel
theorem d_Law_law_725 : decode code 725 = .ok (.istore 5, 2) := by decide +kernel
theorem d_Law_law_727 : decode code 727 = .ok (.aload_n 2, 1) := by decide +kernel
theorem d_Law_law_728 : decode code 728 = .ok (.aload_n 0, 1) := by decide +kernel
theorem d_Law_law_729 : decode code 729 = .ok (.iload 4, 2) := by decide +kernel
theorem d_Law_law_731 : decode code 731 = .ok (.iconst 1, 1) := by decide +kernel
theorem d_Law_law_732 : decode code 732 = .ok (.iadd, 1) := by decide +kernel
theorem d_Law_law_733 : decode code 733 = .ok (.iaload, 1) := by decide +kernel
theorem d_Law_law_734 : decode code 734 = .ok (.invokevirtual 122, 3) := by decide +kernel
theorem d_Law_law_737 : decode code 737 = .ok (.istore 6, 2) := by decide +kernel
theorem d_Law_law_739 : decode code 739 = .ok (.aload_n 2, 1) := by decide +kernel
theorem d_Law_law_740 : decode code 740 = .ok (.invokevirtual 80, 3) := by decide +kernel
theorem d_Law_law_743 : decode code 743 = .ok (.iload 5, 2) := by decide +kernel
theorem d_Law_law_745 : decode code 745 = .ok (.if_icmp .eq 5, 3) := by decide +kernel
theorem d_Law_law_748 : decode code 748 = .ok (.iconst 0, 1) := by decide +kernel
theorem d_Law_law_749 : decode code 749 = .ok (.ireturn, 1) := by decide +kernel
theorem d_Law_law_750 : decode code 750 = .ok (.iload 5, 2) := by decide +kernel
theorem d_Law_law_752 : decode code 752 = .ok (.ifCond .ne 15, 3) := by decide +kernel
theorem d_Law_law_755 : decode code 755 = .ok (.aload_n 3, 1) := by decide +kernel
theorem d_Law_law_756 : decode code 756 = .ok (.iconst 0, 1) := by decide +kernel
theorem d_Law_law_757 : decode code 757 = .ok (.laload, 1) := by decide +kernel
theorem d_Law_law_758 : decode code 758 = .ok (.iload 6, 2) := by decide +kernel
theorem d_Law_law_760 : decode code 760 = .ok (.i2l, 1) := by decide +kernel
theorem d_Law_law_761 : decode code 761 = .ok (.lcmp, 1) := by decide +kernel
theorem d_Law_law_762 : decode code 762 = .ok (.ifCond .eq 5, 3) := by decide +kernel
theorem d_Law_law_765 : decode code 765 = .ok (.iconst 0, 1) := by decide +kernel
theorem d_Law_law_766 : decode code 766 = .ok (.ireturn, 1) := by decide +kernel
theorem d_Law_law_767 : decode code 767 = .ok (.goto 457, 3) := by decide +kernel
theorem d_Law_law_770 : decode code 770 = .ok (.aload_n 1, 1) := by decide +kernel
theorem d_Law_law_771 : decode code 771 = .ok (.aload_n 0, 1) := by decide +kernel
theorem d_Law_law_772 : decode code 772 = .ok (.iload 4, 2) := by decide +kernel
theorem d_Law_law_774 : decode code 774 = .ok (.iconst 1, 1) := by decide +kernel
theorem d_Law_law_775 : decode code 775 = .ok (.iadd, 1) := by decide +kernel
theorem d_Law_law_776 : decode code 776 = .ok (.iaload, 1) := by decide +kernel
theorem d_Law_law_777 : decode code 777 = .ok (.aload_n 0, 1) := by decide +kernel
theorem d_Law_law_778 : decode code 778 = .ok (.iload 4, 2) := by decide +kernel
theorem d_Law_law_780 : decode code 780 = .ok (.iconst 2, 1) := by decide +kernel
theorem d_Law_law_781 : decode code 781 = .ok (.iadd, 1) := by decide +kernel
theorem d_Law_law_782 : decode code 782 = .ok (.iaload, 1) := by decide +kernel
theorem d_Law_law_783 : decode code 783 = .ok (.aload_n 3, 1) := by decide +kernel
theorem d_Law_law_784 : decode code 784 = .ok (.invokestatic 123, 3) := by decide +kernel
theorem d_Law_law_787 : decode code 787 = .ok (.istore 5, 2) := by decide +kernel
theorem d_Law_law_789 : decode code 789 = .ok (.aload_n 2, 1) := by decide +kernel
theorem d_Law_law_790 : decode code 790 = .ok (.aload_n 0, 1) := by decide +kernel
theorem d_Law_law_791 : decode code 791 = .ok (.iload 4, 2) := by decide +kernel
theorem d_Law_law_793 : decode code 793 = .ok (.iconst 1, 1) := by decide +kernel
theorem d_Law_law_794 : decode code 794 = .ok (.iadd, 1) := by decide +kernel
theorem d_Law_law_795 : decode code 795 = .ok (.iaload, 1) := by decide +kernel
theorem d_Law_law_796 : decode code 796 = .ok (.aload_n 0, 1) := by decide +kernel
theorem d_Law_law_797 : decode code 797 = .ok (.iload 4, 2) := by decide +kernel
theorem d_Law_law_799 : decode code 799 = .ok (.iconst 2, 1) := by decide +kernel
theorem d_Law_law_800 : decode code 800 = .ok (.iadd, 1) := by decide +kernel
theorem d_Law_law_801 : decode code 801 = .ok (.iaload, 1) := by decide +kernel
theorem d_Law_law_802 : decode code 802 = .ok (.invokevirtual 126, 3) := by decide +kernel
theorem d_Law_law_805 : decode code 805 = .ok (.istore 6, 2) := by decide +kernel
theorem d_Law_law_807 : decode code 807 = .ok (.aload_n 2, 1) := by decide +kernel
theorem d_Law_law_808 : decode code 808 = .ok (.invokevirtual 80, 3) := by decide +kernel
theorem d_Law_law_811 : decode code 811 = .ok (.iload 5, 2) := by decide +kernel
theorem d_Law_law_813 : decode code 813 = .ok (.if_icmp .eq 5, 3) := by decide +kernel
theorem d_Law_law_816 : decode code 816 = .ok (.iconst 0, 1) := by decide +kernel
theorem d_Law_law_817 : decode code 817 = .ok (.ireturn, 1) := by decide +kernel
theorem d_Law_law_818 : decode code 818 = .ok (.iload 5, 2) := by decide +kernel
theorem d_Law_law_820 : decode code 820 = .ok (.ifCond .ne 15, 3) := by decide +kernel
theorem d_Law_law_823 : decode code 823 = .ok (.aload_n 3, 1) := by decide +kernel
theorem d_Law_law_824 : decode code 824 = .ok (.iconst 0, 1) := by decide +kernel
theorem d_Law_law_825 : decode code 825 = .ok (.laload, 1) := by decide +kernel
theorem d_Law_law_826 : decode code 826 = .ok (.iload 6, 2) := by decide +kernel
theorem d_Law_law_828 : decode code 828 = .ok (.i2l, 1) := by decide +kernel
theorem d_Law_law_829 : decode code 829 = .ok (.lcmp, 1) := by decide +kernel
theorem d_Law_law_830 : decode code 830 = .ok (.ifCond .eq 5, 3) := by decide +kernel
theorem d_Law_law_833 : decode code 833 = .ok (.iconst 0, 1) := by decide +kernel
theorem d_Law_law_834 : decode code 834 = .ok (.ireturn, 1) := by decide +kernel
theorem d_Law_law_835 : decode code 835 = .ok (.goto 389, 3) := by decide +kernel
theorem d_Law_law_838 : decode code 838 = .ok (.aload_n 1, 1) := by decide +kernel
theorem d_Law_law_839 : decode code 839 = .ok (.invokevirtual 127, 3) := by decide +kernel
theorem d_Law_law_842 : decode code 842 = .ok (.aload_n 2, 1) := by decide +kernel
theorem d_Law_law_843 : decode code 843 = .ok (.invokevirtual 130, 3) := by decide +kernel
theorem d_Law_law_846 : decode code 846 = .ok (.if_icmp .eq 378, 3) := by decide +kernel
theorem d_Law_law_849 : decode code 849 = .ok (.iconst 0, 1) := by decide +kernel
theorem d_Law_law_850 : decode code 850 = .ok (.ireturn, 1) := by decide +kernel
theorem d_Law_law_851 : decode code 851 = .ok (.aload_n 1, 1) := by decide +kernel
theorem d_Law_law_852 : decode code 852 = .ok (.aload_n 0, 1) := by decide +kernel
theorem d_Law_law_853 : decode code 853 = .ok (.iload 4, 2) := by decide +kernel
theorem d_Law_law_855 : decode code 855 = .ok (.iconst 1, 1) := by decide +kernel
theorem d_Law_law_856 : decode code 856 = .ok (.iadd, 1) := by decide +kernel
theorem d_Law_law_857 : decode code 857 = .ok (.iaload, 1) := by decide +kernel
theorem d_Law_law_858 : decode code 858 = .ok (.aload_n 3, 1) := by decide +kernel
theorem d_Law_law_859 : decode code 859 = .ok (.invokestatic 131, 3) := by decide +kernel
theorem d_Law_law_862 : decode code 862 = .ok (.istore 5, 2) := by decide +kernel
theorem d_Law_law_864 : decode code 864 = .ok (.aload_n 2, 1) := by decide +kernel
theorem d_Law_law_865 : decode code 865 = .ok (.aload_n 0, 1) := by decide +kernel
theorem d_Law_law_866 : decode code 866 = .ok (.iload 4, 2) := by decide +kernel
theorem d_Law_law_868 : decode code 868 = .ok (.iconst 1, 1) := by decide +kernel
theorem d_Law_law_869 : decode code 869 = .ok (.iadd, 1) := by decide +kernel
theorem d_Law_law_870 : decode code 870 = .ok (.iaload, 1) := by decide +kernel
theorem d_Law_law_871 : decode code 871 = .ok (.invokevirtual 133, 3) := by decide +kernel
theorem d_Law_law_874 : decode code 874 = .ok (.istore 6, 2) := by decide +kernel
theorem d_Law_law_876 : decode code 876 = .ok (.aload_n 2, 1) := by decide +kernel
theorem d_Law_law_877 : decode code 877 = .ok (.invokevirtual 80, 3) := by decide +kernel
theorem d_Law_law_880 : decode code 880 = .ok (.iload 5, 2) := by decide +kernel
theorem d_Law_law_882 : decode code 882 = .ok (.if_icmp .eq 5, 3) := by decide +kernel
theorem d_Law_law_885 : decode code 885 = .ok (.iconst 0, 1) := by decide +kernel
theorem d_Law_law_886 : decode code 886 = .ok (.ireturn, 1) := by decide +kernel
theorem d_Law_law_887 : decode code 887 = .ok (.iload 5, 2) := by decide +kernel
theorem d_Law_law_889 : decode code 889 = .ok (.ifCond .ne 15, 3) := by decide +kernel
theorem d_Law_law_892 : decode code 892 = .ok (.aload_n 3, 1) := by decide +kernel
theorem d_Law_law_893 : decode code 893 = .ok (.iconst 0, 1) := by decide +kernel
theorem d_Law_law_894 : decode code 894 = .ok (.laload, 1) := by decide +kernel
theorem d_Law_law_895 : decode code 895 = .ok (.iload 6, 2) := by decide +kernel
theorem d_Law_law_897 : decode code 897 = .ok (.i2l, 1) := by decide +kernel
theorem d_Law_law_898 : decode code 898 = .ok (.lcmp, 1) := by decide +kernel
theorem d_Law_law_899 : decode code 899 = .ok (.ifCond .eq 5, 3) := by decide +kernel
theorem d_Law_law_902 : decode code 902 = .ok (.iconst 0, 1) := by decide +kernel
theorem d_Law_law_903 : decode code 903 = .ok (.ireturn, 1) := by decide +kernel
theorem d_Law_law_904 : decode code 904 = .ok (.goto 320, 3) := by decide +kernel
theorem d_Law_law_907 : decode code 907 = .ok (.aload_n 1, 1) := by decide +kernel
theorem d_Law_law_908 : decode code 908 = .ok (.aload_n 0, 1) := by decide +kernel
theorem d_Law_law_909 : decode code 909 = .ok (.iload 4, 2) := by decide +kernel
theorem d_Law_law_911 : decode code 911 = .ok (.iconst 1, 1) := by decide +kernel
theorem d_Law_law_912 : decode code 912 = .ok (.iadd, 1) := by decide +kernel
theorem d_Law_law_913 : decode code 913 = .ok (.iaload, 1) := by decide +kernel
theorem d_Law_law_914 : decode code 914 = .ok (.aload_n 3, 1) := by decide +kernel
theorem d_Law_law_915 : decode code 915 = .ok (.invokestatic 134, 3) := by decide +kernel
theorem d_Law_law_918 : decode code 918 = .ok (.istore 5, 2) := by decide +kernel
theorem d_Law_law_920 : decode code 920 = .ok (.aload_n 2, 1) := by decide +kernel
theorem d_Law_law_921 : decode code 921 = .ok (.aload_n 0, 1) := by decide +kernel
theorem d_Law_law_922 : decode code 922 = .ok (.iload 4, 2) := by decide +kernel
theorem d_Law_law_924 : decode code 924 = .ok (.iconst 1, 1) := by decide +kernel
theorem d_Law_law_925 : decode code 925 = .ok (.iadd, 1) := by decide +kernel
theorem d_Law_law_926 : decode code 926 = .ok (.iaload, 1) := by decide +kernel
theorem d_Law_law_927 : decode code 927 = .ok (.invokevirtual 136, 3) := by decide +kernel
theorem d_Law_law_930 : decode code 930 = .ok (.istore 6, 2) := by decide +kernel
theorem d_Law_law_932 : decode code 932 = .ok (.aload_n 2, 1) := by decide +kernel
theorem d_Law_law_933 : decode code 933 = .ok (.invokevirtual 80, 3) := by decide +kernel
theorem d_Law_law_936 : decode code 936 = .ok (.iload 5, 2) := by decide +kernel
theorem d_Law_law_938 : decode code 938 = .ok (.if_icmp .eq 5, 3) := by decide +kernel
theorem d_Law_law_941 : decode code 941 = .ok (.iconst 0, 1) := by decide +kernel
theorem d_Law_law_942 : decode code 942 = .ok (.ireturn, 1) := by decide +kernel
theorem d_Law_law_943 : decode code 943 = .ok (.iload 5, 2) := by decide +kernel
theorem d_Law_law_945 : decode code 945 = .ok (.ifCond .ne 15, 3) := by decide +kernel
theorem d_Law_law_948 : decode code 948 = .ok (.aload_n 3, 1) := by decide +kernel
theorem d_Law_law_949 : decode code 949 = .ok (.iconst 0, 1) := by decide +kernel
theorem d_Law_law_950 : decode code 950 = .ok (.laload, 1) := by decide +kernel
theorem d_Law_law_951 : decode code 951 = .ok (.iload 6, 2) := by decide +kernel
theorem d_Law_law_953 : decode code 953 = .ok (.i2l, 1) := by decide +kernel
theorem d_Law_law_954 : decode code 954 = .ok (.lcmp, 1) := by decide +kernel
theorem d_Law_law_955 : decode code 955 = .ok (.ifCond .eq 5, 3) := by decide +kernel
theorem d_Law_law_958 : decode code 958 = .ok (.iconst 0, 1) := by decide +kernel
theorem d_Law_law_959 : decode code 959 = .ok (.ireturn, 1) := by decide +kernel
theorem d_Law_law_960 : decode code 960 = .ok (.goto 264, 3) := by decide +kernel
theorem d_Law_law_963 : decode code 963 = .ok (.aload_n 1, 1) := by decide +kernel
theorem d_Law_law_964 : decode code 964 = .ok (.aload_n 0, 1) := by decide +kernel
theorem d_Law_law_965 : decode code 965 = .ok (.iload 4, 2) := by decide +kernel
theorem d_Law_law_967 : decode code 967 = .ok (.iconst 1, 1) := by decide +kernel
theorem d_Law_law_968 : decode code 968 = .ok (.iadd, 1) := by decide +kernel
theorem d_Law_law_969 : decode code 969 = .ok (.iaload, 1) := by decide +kernel
theorem d_Law_law_970 : decode code 970 = .ok (.aload_n 0, 1) := by decide +kernel
theorem d_Law_law_971 : decode code 971 = .ok (.iload 4, 2) := by decide +kernel
theorem d_Law_law_973 : decode code 973 = .ok (.iconst 2, 1) := by decide +kernel
theorem d_Law_law_974 : decode code 974 = .ok (.iadd, 1) := by decide +kernel
theorem d_Law_law_975 : decode code 975 = .ok (.iaload, 1) := by decide +kernel
theorem d_Law_law_976 : decode code 976 = .ok (.aload_n 3, 1) := by decide +kernel
theorem d_Law_law_977 : decode code 977 = .ok (.invokestatic 137, 3) := by decide +kernel
theorem d_Law_law_980 : decode code 980 = .ok (.istore 5, 2) := by decide +kernel
theorem d_Law_law_982 : decode code 982 = .ok (.aload_n 2, 1) := by decide +kernel
theorem d_Law_law_983 : decode code 983 = .ok (.aload_n 0, 1) := by decide +kernel
theorem d_Law_law_984 : decode code 984 = .ok (.iload 4, 2) := by decide +kernel
theorem d_Law_law_986 : decode code 986 = .ok (.iconst 1, 1) := by decide +kernel
theorem d_Law_law_987 : decode code 987 = .ok (.iadd, 1) := by decide +kernel
theorem d_Law_law_988 : decode code 988 = .ok (.iaload, 1) := by decide +kernel
theorem d_Law_law_989 : decode code 989 = .ok (.aload_n 0, 1) := by decide +kernel
theorem d_Law_law_990 : decode code 990 = .ok (.iload 4, 2) := by decide +kernel
theorem d_Law_law_992 : decode code 992 = .ok (.iconst 2, 1) := by decide +kernel
theorem d_Law_law_993 : decode code 993 = .ok (.iadd, 1) := by decide +kernel
theorem d_Law_law_994 : decode code 994 = .ok (.iaload, 1) := by decide +kernel
theorem d_Law_law_995 : decode code 995 = .ok (.invokevirtual 139, 3) := by decide +kernel
theorem d_Law_law_998 : decode code 998 = .ok (.istore 6, 2) := by decide +kernel
theorem d_Law_law_1000 : decode code 1000 = .ok (.aload_n 2, 1) := by decide +kernel
theorem d_Law_law_1001 : decode code 1001 = .ok (.invokevirtual 80, 3) := by decide +kernel
theorem d_Law_law_1004 : decode code 1004 = .ok (.iload 5, 2) := by decide +kernel
theorem d_Law_law_1006 : decode code 1006 = .ok (.if_icmp .eq 5, 3) := by decide +kernel
theorem d_Law_law_1009 : decode code 1009 = .ok (.iconst 0, 1) := by decide +kernel
theorem d_Law_law_1010 : decode code 1010 = .ok (.ireturn, 1) := by decide +kernel
theorem d_Law_law_1011 : decode code 1011 = .ok (.iload 5, 2) := by decide +kernel
theorem d_Law_law_1013 : decode code 1013 = .ok (.ifCond .ne 15, 3) := by decide +kernel
theorem d_Law_law_1016 : decode code 1016 = .ok (.aload_n 3, 1) := by decide +kernel
theorem d_Law_law_1017 : decode code 1017 = .ok (.iconst 0, 1) := by decide +kernel
theorem d_Law_law_1018 : decode code 1018 = .ok (.laload, 1) := by decide +kernel
theorem d_Law_law_1019 : decode code 1019 = .ok (.iload 6, 2) := by decide +kernel
theorem d_Law_law_1021 : decode code 1021 = .ok (.i2l, 1) := by decide +kernel
theorem d_Law_law_1022 : decode code 1022 = .ok (.lcmp, 1) := by decide +kernel
theorem d_Law_law_1023 : decode code 1023 = .ok (.ifCond .eq 5, 3) := by decide +kernel
theorem d_Law_law_1026 : decode code 1026 = .ok (.iconst 0, 1) := by decide +kernel
theorem d_Law_law_1027 : decode code 1027 = .ok (.ireturn, 1) := by decide +kernel
theorem d_Law_law_1028 : decode code 1028 = .ok (.goto 196, 3) := by decide +kernel
theorem d_Law_law_1031 : decode code 1031 = .ok (.aload_n 1, 1) := by decide +kernel
theorem d_Law_law_1032 : decode code 1032 = .ok (.invokevirtual 140, 3) := by decide +kernel
theorem d_Law_law_1035 : decode code 1035 = .ok (.aload_n 2, 1) := by decide +kernel
theorem d_Law_law_1036 : decode code 1036 = .ok (.invokevirtual 143, 3) := by decide +kernel
theorem d_Law_law_1039 : decode code 1039 = .ok (.if_icmp .eq 185, 3) := by decide +kernel
theorem d_Law_law_1042 : decode code 1042 = .ok (.iconst 0, 1) := by decide +kernel
theorem d_Law_law_1043 : decode code 1043 = .ok (.ireturn, 1) := by decide +kernel
theorem d_Law_law_1044 : decode code 1044 = .ok (.aload_n 1, 1) := by decide +kernel
theorem d_Law_law_1045 : decode code 1045 = .ok (.aload_n 0, 1) := by decide +kernel
theorem d_Law_law_1046 : decode code 1046 = .ok (.iload 4, 2) := by decide +kernel
theorem d_Law_law_1048 : decode code 1048 = .ok (.iconst 1, 1) := by decide +kernel
theorem d_Law_law_1049 : decode code 1049 = .ok (.iadd, 1) := by decide +kernel
theorem d_Law_law_1050 : decode code 1050 = .ok (.iaload, 1) := by decide +kernel
theorem d_Law_law_1051 : decode code 1051 = .ok (.aload_n 0, 1) := by decide +kernel
theorem d_Law_law_1052 : decode code 1052 = .ok (.iload 4, 2) := by decide +kernel
theorem d_Law_law_1054 : decode code 1054 = .ok (.iconst 2, 1) := by decide +kernel
theorem d_Law_law_1055 : decode code 1055 = .ok (.iadd, 1) := by decide +kernel
theorem d_Law_law_1056 : decode code 1056 = .ok (.iaload, 1) := by decide +kernel
theorem d_Law_law_1057 : decode code 1057 = .ok (.aload_n 3, 1) := by decide +kernel
theorem d_Law_law_1058 : decode code 1058 = .ok (.invokestatic 144, 3) := by decide +kernel
theorem d_Law_law_1061 : decode code 1061 = .ok (.istore 5, 2) := by decide +kernel
theorem d_Law_law_1063 : decode code 1063 = .ok (.aload_n 2, 1) := by decide +kernel
theorem d_Law_law_1064 : decode code 1064 = .ok (.aload_n 0, 1) := by decide +kernel
theorem d_Law_law_1065 : decode code 1065 = .ok (.iload 4, 2) := by decide +kernel
theorem d_Law_law_1067 : decode code 1067 = .ok (.iconst 1, 1) := by decide +kernel
theorem d_Law_law_1068 : decode code 1068 = .ok (.iadd, 1) := by decide +kernel
theorem d_Law_law_1069 : decode code 1069 = .ok (.iaload, 1) := by decide +kernel
theorem d_Law_law_1070 : decode code 1070 = .ok (.aload_n 0, 1) := by decide +kernel
theorem d_Law_law_1071 : decode code 1071 = .ok (.iload 4, 2) := by decide +kernel
theorem d_Law_law_1073 : decode code 1073 = .ok (.iconst 2, 1) := by decide +kernel
theorem d_Law_law_1074 : decode code 1074 = .ok (.iadd, 1) := by decide +kernel
theorem d_Law_law_1075 : decode code 1075 = .ok (.iaload, 1) := by decide +kernel
theorem d_Law_law_1076 : decode code 1076 = .ok (.invokevirtual 146, 3) := by decide +kernel
theorem d_Law_law_1079 : decode code 1079 = .ok (.istore 6, 2) := by decide +kernel
theorem d_Law_law_1081 : decode code 1081 = .ok (.aload_n 2, 1) := by decide +kernel
theorem d_Law_law_1082 : decode code 1082 = .ok (.invokevirtual 80, 3) := by decide +kernel
theorem d_Law_law_1085 : decode code 1085 = .ok (.iload 5, 2) := by decide +kernel
theorem d_Law_law_1087 : decode code 1087 = .ok (.if_icmp .eq 5, 3) := by decide +kernel
theorem d_Law_law_1090 : decode code 1090 = .ok (.iconst 0, 1) := by decide +kernel
theorem d_Law_law_1091 : decode code 1091 = .ok (.ireturn, 1) := by decide +kernel
theorem d_Law_law_1092 : decode code 1092 = .ok (.iload 5, 2) := by decide +kernel
theorem d_Law_law_1094 : decode code 1094 = .ok (.ifCond .ne 15, 3) := by decide +kernel
theorem d_Law_law_1097 : decode code 1097 = .ok (.aload_n 3, 1) := by decide +kernel
theorem d_Law_law_1098 : decode code 1098 = .ok (.iconst 0, 1) := by decide +kernel
theorem d_Law_law_1099 : decode code 1099 = .ok (.laload, 1) := by decide +kernel
theorem d_Law_law_1100 : decode code 1100 = .ok (.iload 6, 2) := by decide +kernel
theorem d_Law_law_1102 : decode code 1102 = .ok (.i2l, 1) := by decide +kernel
theorem d_Law_law_1103 : decode code 1103 = .ok (.lcmp, 1) := by decide +kernel
theorem d_Law_law_1104 : decode code 1104 = .ok (.ifCond .eq 5, 3) := by decide +kernel
theorem d_Law_law_1107 : decode code 1107 = .ok (.iconst 0, 1) := by decide +kernel
theorem d_Law_law_1108 : decode code 1108 = .ok (.ireturn, 1) := by decide +kernel
theorem d_Law_law_1109 : decode code 1109 = .ok (.goto 115, 3) := by decide +kernel
theorem d_Law_law_1112 : decode code 1112 = .ok (.aload_n 1, 1) := by decide +kernel
theorem d_Law_law_1113 : decode code 1113 = .ok (.aload_n 0, 1) := by decide +kernel
theorem d_Law_law_1114 : decode code 1114 = .ok (.iload 4, 2) := by decide +kernel
theorem d_Law_law_1116 : decode code 1116 = .ok (.iconst 1, 1) := by decide +kernel
theorem d_Law_law_1117 : decode code 1117 = .ok (.iadd, 1) := by decide +kernel
theorem d_Law_law_1118 : decode code 1118 = .ok (.iaload, 1) := by decide +kernel
theorem d_Law_law_1119 : decode code 1119 = .ok (.aload_n 3, 1) := by decide +kernel
theorem d_Law_law_1120 : decode code 1120 = .ok (.invokestatic 147, 3) := by decide +kernel
theorem d_Law_law_1123 : decode code 1123 = .ok (.istore 5, 2) := by decide +kernel
theorem d_Law_law_1125 : decode code 1125 = .ok (.aload_n 2, 1) := by decide +kernel
theorem d_Law_law_1126 : decode code 1126 = .ok (.aload_n 0, 1) := by decide +kernel
theorem d_Law_law_1127 : decode code 1127 = .ok (.iload 4, 2) := by decide +kernel
theorem d_Law_law_1129 : decode code 1129 = .ok (.iconst 1, 1) := by decide +kernel
theorem d_Law_law_1130 : decode code 1130 = .ok (.iadd, 1) := by decide +kernel
theorem d_Law_law_1131 : decode code 1131 = .ok (.iaload, 1) := by decide +kernel
theorem d_Law_law_1132 : decode code 1132 = .ok (.invokevirtual 149, 3) := by decide +kernel
theorem d_Law_law_1135 : decode code 1135 = .ok (.istore 6, 2) := by decide +kernel
theorem d_Law_law_1137 : decode code 1137 = .ok (.aload_n 2, 1) := by decide +kernel
theorem d_Law_law_1138 : decode code 1138 = .ok (.invokevirtual 80, 3) := by decide +kernel
theorem d_Law_law_1141 : decode code 1141 = .ok (.iload 5, 2) := by decide +kernel
theorem d_Law_law_1143 : decode code 1143 = .ok (.if_icmp .eq 5, 3) := by decide +kernel
theorem d_Law_law_1146 : decode code 1146 = .ok (.iconst 0, 1) := by decide +kernel
theorem d_Law_law_1147 : decode code 1147 = .ok (.ireturn, 1) := by decide +kernel
theorem d_Law_law_1148 : decode code 1148 = .ok (.iload 5, 2) := by decide +kernel
theorem d_Law_law_1150 : decode code 1150 = .ok (.ifCond .ne 15, 3) := by decide +kernel
theorem d_Law_law_1153 : decode code 1153 = .ok (.aload_n 3, 1) := by decide +kernel
theorem d_Law_law_1154 : decode code 1154 = .ok (.iconst 0, 1) := by decide +kernel
theorem d_Law_law_1155 : decode code 1155 = .ok (.laload, 1) := by decide +kernel
theorem d_Law_law_1156 : decode code 1156 = .ok (.iload 6, 2) := by decide +kernel
theorem d_Law_law_1158 : decode code 1158 = .ok (.i2l, 1) := by decide +kernel
theorem d_Law_law_1159 : decode code 1159 = .ok (.lcmp, 1) := by decide +kernel
theorem d_Law_law_1160 : decode code 1160 = .ok (.ifCond .eq 5, 3) := by decide +kernel
theorem d_Law_law_1163 : decode code 1163 = .ok (.iconst 0, 1) := by decide +kernel
theorem d_Law_law_1164 : decode code 1164 = .ok (.ireturn, 1) := by decide +kernel
theorem d_Law_law_1165 : decode code 1165 = .ok (.goto 59, 3) := by decide +kernel
theorem d_Law_law_1168 : decode code 1168 = .ok (.aload_n 1, 1) := by decide +kernel
theorem d_Law_law_1169 : decode code 1169 = .ok (.aload_n 0, 1) := by decide +kernel
theorem d_Law_law_1170 : decode code 1170 = .ok (.iload 4, 2) := by decide +kernel
theorem d_Law_law_1172 : decode code 1172 = .ok (.iconst 1, 1) := by decide +kernel
theorem d_Law_law_1173 : decode code 1173 = .ok (.iadd, 1) := by decide +kernel
theorem d_Law_law_1174 : decode code 1174 = .ok (.iaload, 1) := by decide +kernel
theorem d_Law_law_1175 : decode code 1175 = .ok (.aload_n 3, 1) := by decide +kernel
theorem d_Law_law_1176 : decode code 1176 = .ok (.invokestatic 150, 3) := by decide +kernel
theorem d_Law_law_1179 : decode code 1179 = .ok (.istore 5, 2) := by decide +kernel
theorem d_Law_law_1181 : decode code 1181 = .ok (.aload_n 2, 1) := by decide +kernel
theorem d_Law_law_1182 : decode code 1182 = .ok (.aload_n 0, 1) := by decide +kernel
theorem d_Law_law_1183 : decode code 1183 = .ok (.iload 4, 2) := by decide +kernel
theorem d_Law_law_1185 : decode code 1185 = .ok (.iconst 1, 1) := by decide +kernel
theorem d_Law_law_1186 : decode code 1186 = .ok (.iadd, 1) := by decide +kernel
theorem d_Law_law_1187 : decode code 1187 = .ok (.iaload, 1) := by decide +kernel
theorem d_Law_law_1188 : decode code 1188 = .ok (.invokevirtual 152, 3) := by decide +kernel
theorem d_Law_law_1191 : decode code 1191 = .ok (.istore 6, 2) := by decide +kernel
theorem d_Law_law_1193 : decode code 1193 = .ok (.aload_n 2, 1) := by decide +kernel
theorem d_Law_law_1194 : decode code 1194 = .ok (.invokevirtual 80, 3) := by decide +kernel
theorem d_Law_law_1197 : decode code 1197 = .ok (.iload 5, 2) := by decide +kernel
theorem d_Law_law_1199 : decode code 1199 = .ok (.if_icmp .eq 5, 3) := by decide +kernel
theorem d_Law_law_1202 : decode code 1202 = .ok (.iconst 0, 1) := by decide +kernel
theorem d_Law_law_1203 : decode code 1203 = .ok (.ireturn, 1) := by decide +kernel
theorem d_Law_law_1204 : decode code 1204 = .ok (.iload 5, 2) := by decide +kernel
theorem d_Law_law_1206 : decode code 1206 = .ok (.ifCond .ne 15, 3) := by decide +kernel
theorem d_Law_law_1209 : decode code 1209 = .ok (.aload_n 3, 1) := by decide +kernel
theorem d_Law_law_1210 : decode code 1210 = .ok (.iconst 0, 1) := by decide +kernel
theorem d_Law_law_1211 : decode code 1211 = .ok (.laload, 1) := by decide +kernel
theorem d_Law_law_1212 : decode code 1212 = .ok (.iload 6, 2) := by decide +kernel
theorem d_Law_law_1214 : decode code 1214 = .ok (.i2l, 1) := by decide +kernel
theorem d_Law_law_1215 : decode code 1215 = .ok (.lcmp, 1) := by decide +kernel
theorem d_Law_law_1216 : decode code 1216 = .ok (.ifCond .eq 5, 3) := by decide +kernel
theorem d_Law_law_1219 : decode code 1219 = .ok (.iconst 0, 1) := by decide +kernel
theorem d_Law_law_1220 : decode code 1220 = .ok (.ireturn, 1) := by decide +kernel
theorem d_Law_law_1221 : decode code 1221 = .ok (.goto 3, 3) := by decide +kernel
theorem d_Law_law_1224 : decode code 1224 = .ok (.iinc 4 5, 3) := by decide +kernel
theorem d_Law_law_1227 : decode code 1227 = .ok (.goto (-1204), 3) := by decide +kernel
theorem d_Law_law_1230 : decode code 1230 = .ok (.iconst 1, 1) := by decide +kernel
theorem d_Law_law_1231 : decode code 1231 = .ok (.ireturn, 1) := by decide +kernel
set_option maxHeartbeats 4000000 in
set_option maxRecDepth 100000 in
theorem lw_write {l : Launch} (hl : l.stackTraces = false) {D : va_G} {nm : String} {d mc ms : Nat} {sh0 : s_S} {sz0 : Int} {Po : s_Po} {g : g_X} {k n : Nat} (X : Cx l D code "CiteForgeLaw" nm 8 ret d mc ms sh0 sz0 Po g) (YY : y_C sh0 sz0 [] g) (hd0 : 20 ≤ d) (hk0 : k + 1 ≤ mc) (hn0 : n + 6 ≤ ms) {sh : s_S} {M : s_M} {o i : Int} {b N : Nat} {xs : Nat → Int32} (Z : z_C b N xs g) (hcf : cf0 sh M o) (hmk0 : mks sh M (o + 247) mL) (hq : sh (o + 276) = some (.inr (.long, 1))) (hi : 0 ≤ i ∧ i + 5 ≤ N) (hN : N ≤ 100000) (kont : ∀ (k' n' : Nat) (M' : s_M) (sz' : Int), k' ≤ k + 1 → n' ≤ n + 6 → Go g k' n' sh M' sz' 1224 [(4, vi i), (3, vr (o + 276)), (2, vr (o + 247)), (1, vr o), (0, vr (b : Int))] []) : Go g k n sh M (o + 277) 132 [(4, vi i), (3, vr (o + 276)), (2, vr (o + 247)), (1, vr o), (0, vr (b : Int))] [] := by
  have hSr := scr_rng xs
  refine go_aload_n X d_Law_law_132 rfl rfl ?_
  refine go_aload_n X d_Law_law_133 rfl rfl ?_
  refine go_iload X d_Law_law_134 rfl ?_
  refine go_iconst (v := 1) X d_Law_law_136 ?_
  refine go_iadd X d_Law_law_137 ?_
  refine go_scr X Z (by omega) (by omega) d_Law_law_138 ?_
  refine go_i2l X d_Law_law_139 (by have := hSr (i + 1); omega) ?_
  refine go_bipush (v := 32) X d_Law_law_140 (by decide) ?_
  refine go_lshl (z := lsh_ (scr_ xs (i + 1)) 32) X d_Law_law_142 (Int64.ofInt_toInt _).symm ?_
  refine go_aload_n X d_Law_law_143 rfl rfl ?_
  refine go_iload X d_Law_law_144 rfl ?_
  refine go_iconst (v := 2) X d_Law_law_146 ?_
  refine go_iadd X d_Law_law_147 ?_
  refine go_scr X Z (by omega) (by omega) d_Law_law_148 ?_
  refine go_i2l X d_Law_law_149 (by have := hSr (i + 2); omega) ?_
  refine go_ldc2 (x := 4294967295) X w_kl_Law_72 (by decide) d_Law_law_150 ?_
  refine go_land (z := lan_ (scr_ xs (i + 2)) 4294967295) X d_Law_law_153 (Int64.ofInt_toInt _).symm ?_
  refine go_lor (z := lor_ (lsh_ (scr_ xs (i + 1)) 32) (lan_ (scr_ xs (i + 2)) 4294967295)) X d_Law_law_154 (Int64.ofInt_toInt _).symm ?_
  refine go_top (v' := vl (u64 (lor_ (lsh_ (scr_ xs (i + 1)) 32) (lan_ (scr_ xs (i + 2)) 4294967295)))) X (u64_vl _) ?_
  refine go_aload_n X d_Law_law_155 rfl rfl ?_
  refine go_iload X d_Law_law_156 rfl ?_
  refine go_iconst (v := 3) X d_Law_law_158 ?_
  refine go_iadd X d_Law_law_159 ?_
  refine go_scr X Z (by omega) (by omega) d_Law_law_160 ?_
  refine go_aload_n X d_Law_law_161 rfl rfl ?_
  refine go_callSW (r := []) (np := 4) X YY lw_write_c lw_ini (by decide +kernel) lw_write_l lw_write_s (h_write l hl D hcf.1 hcf.2.2.2.2.1 (u64_rng _) (hSr _) hq (by omega)) rfl rfl (by omega) (by decide) (by omega) (by omega) (Nat.le_of_ble_eq_true rfl) d_Law_law_162 (fun v' sh' M1 sz1 hp => ?_)
  obtain ⟨kc, vv, hkc, hvv, hkr, e1, e2, hval, hsz, f1⟩ := hp
  subst e1
  rw [e2]
  show Go g (k + 1) (n + 6) sh M1 sz1 165 [(4, vi i), (3, vr (o + 276)), (2, vr (o + 247)), (1, vr o), (0, vr (b : Int))] [vi kc]
  have hmk := hmk0.mv (sh' := sh) (M' := M1) (fun z h1 h2 => ⟨rfl, f1 z (by show ¬ ((o + 1 ≤ z ∧ z ≤ o + 246) ∨ z = o + 276); omega)⟩)
  refine go_istore (lv' := [(5, vi kc), (4, vi i), (3, vr (o + 276)), (2, vr (o + 247)), (1, vr o), (0, vr (b : Int))]) X d_Law_law_165 (by decide) rfl ?_
  refine go_aload_n X d_Law_law_167 rfl rfl ?_
  refine go_aload_n X d_Law_law_168 rfl rfl ?_
  refine go_iload X d_Law_law_169 rfl ?_
  refine go_iconst (v := 1) X d_Law_law_171 ?_
  refine go_iadd X d_Law_law_172 ?_
  refine go_scr X Z (by omega) (by omega) d_Law_law_173 ?_
  refine go_i2l X d_Law_law_174 (by have := hSr (i + 1); omega) ?_
  refine go_bipush (v := 32) X d_Law_law_175 (by decide) ?_
  refine go_lshl (z := lsh_ (scr_ xs (i + 1)) 32) X d_Law_law_177 (Int64.ofInt_toInt _).symm ?_
  refine go_aload_n X d_Law_law_178 rfl rfl ?_
  refine go_iload X d_Law_law_179 rfl ?_
  refine go_iconst (v := 2) X d_Law_law_181 ?_
  refine go_iadd X d_Law_law_182 ?_
  refine go_scr X Z (by omega) (by omega) d_Law_law_183 ?_
  refine go_i2l X d_Law_law_184 (by have := hSr (i + 2); omega) ?_
  refine go_ldc2 (x := 4294967295) X w_kl_Law_72 (by decide) d_Law_law_185 ?_
  refine go_land (z := lan_ (scr_ xs (i + 2)) 4294967295) X d_Law_law_188 (Int64.ofInt_toInt _).symm ?_
  refine go_lor (z := lor_ (lsh_ (scr_ xs (i + 1)) 32) (lan_ (scr_ xs (i + 2)) 4294967295)) X d_Law_law_189 (Int64.ofInt_toInt _).symm ?_
  refine go_top (v' := vl (u64 (lor_ (lsh_ (scr_ xs (i + 1)) 32) (lan_ (scr_ xs (i + 2)) 4294967295)))) X (u64_vl _) ?_
  refine go_aload_n X d_Law_law_190 rfl rfl ?_
  refine go_iload X d_Law_law_191 rfl ?_
  refine go_iconst (v := 3) X d_Law_law_193 ?_
  refine go_iadd X d_Law_law_194 ?_
  refine go_scr X Z (by omega) (by omega) d_Law_law_195 ?_
  refine go_cV (st2 := []) (r := []) X k_Law_79 (m_write l D hmk.mds (t := []) (u64_rng _) (hSr _) (by decide) (hmk.zero (f := 2) (by decide) (by decide))) hmk.1 rfl rfl (by omega) (Nat.le_of_ble_eq_true rfl) d_Law_law_196 (by omega) (by omega) (fun v' sh' M2 sz2 hp => ?_)
  obtain ⟨bb, e4, hb, hbr, e5, e6, hthr, hmd, f2⟩ := hp
  subst e4
  rw [e5, e6]
  show Go g (k + 1) (n + 6) sh M2 (sz1) 199 [(5, vi kc), (4, vi i), (3, vr (o + 276)), (2, vr (o + 247)), (1, vr o), (0, vr (b : Int))] [vi bb]
  have hthr2 : M2 (o + 247) 0 = kc := hthr.trans hkc.symm
  have hb2 : kc = 0 → bb = vv := fun q => (hb (hkc.symm.trans q)).trans hvv.symm
  have hval2 : kc = 0 → M2 (o + 276) 0 = vv ∧ rL vv := fun q => ⟨(congrFun (f2 (o + 276) (by omega)) _).trans (hval q).1, (hval q).2⟩
  refine go_istore (lv' := [(6, vi bb), (5, vi kc), (4, vi i), (3, vr (o + 276)), (2, vr (o + 247)), (1, vr o), (0, vr (b : Int))]) X d_Law_law_199 (by decide) rfl ?_
  refine go_aload_n X d_Law_law_201 rfl rfl ?_
  refine go_cVf (st2 := [vi kc]) (r := []) X k_Law_80 (m_thrown l D hmd.1 hthr2) hmk0.1 rfl rfl (by omega) (Nat.le_of_ble_eq_true rfl) d_Law_law_202 (by omega) (by omega) rfl ?_
  refine go_iload X d_Law_law_205 rfl ?_
  refine go_icmp_eq (tgt := 212) X d_Law_law_207 rfl (by omega) (by omega) (fun _ => ?_) (fun h9 => absurd (show kc = kc by omega) h9)
  refine go_iload X d_Law_law_212 rfl ?_
  refine go_if_ne (tgt := 229) X d_Law_law_214 rfl (by omega) (fun hq1 => ?_) (fun hq1 => ?_)
  · skip
    refine go_goto (tgt := 1224) X d_Law_law_229 rfl ?_
    refine go_lv (lv' := [(4, vi i), (3, vr (o + 276)), (2, vr (o + 247)), (1, vr o), (0, vr (b : Int))]) X [2, 3, 4, 5, 6] rfl ?_
    exact kont _ _ M2 _ (by omega) (by omega)
  · skip
    obtain ⟨hv1, hv2⟩ := hval2 hq1
    have hb3 := hb2 hq1
    refine go_aload_n X d_Law_law_217 rfl rfl ?_
    refine go_iconst (v := 0) X d_Law_law_218 ?_
    refine go_lald X hq (by omega) (by omega) d_Law_law_219 ?_
    refine go_top (v' := vl vv) X (by rw [hv1]) ?_
    refine go_iload X d_Law_law_220 rfl ?_
    refine go_i2l X d_Law_law_222 (by omega) ?_
    refine go_lcmp X (by omega) (by omega) d_Law_law_223 ?_
    refine go_top (v' := vi 0) X (by rw [show vv = bb by omega, s_cmp_self]) ?_
    refine go_if_eq (tgt := 229) X d_Law_law_224 rfl (by omega) (fun _ => ?_) (fun h9 => absurd h9 (by decide))
    refine go_goto (tgt := 1224) X d_Law_law_229 rfl ?_
    refine go_lv (lv' := [(4, vi i), (3, vr (o + 276)), (2, vr (o + 247)), (1, vr o), (0, vr (b : Int))]) X [2, 3, 4, 5, 6] rfl ?_
    exact kont _ _ M2 _ (by omega) (by omega)
set_option maxHeartbeats 4000000 in
set_option maxRecDepth 100000 in
theorem lw_erase {l : Launch} (hl : l.stackTraces = false) {D : va_G} {nm : String} {d mc ms : Nat} {sh0 : s_S} {sz0 : Int} {Po : s_Po} {g : g_X} {k n : Nat} (X : Cx l D code "CiteForgeLaw" nm 8 ret d mc ms sh0 sz0 Po g) (YY : y_C sh0 sz0 [] g) (hd0 : 20 ≤ d) (hk0 : k + 1 ≤ mc) (hn0 : n + 6 ≤ ms) {sh : s_S} {M : s_M} {o i : Int} {b N : Nat} {xs : Nat → Int32} (Z : z_C b N xs g) (hcf : cf0 sh M o) (hmk0 : mks sh M (o + 247) mL) (hq : sh (o + 276) = some (.inr (.long, 1))) (hi : 0 ≤ i ∧ i + 5 ≤ N) (hN : N ≤ 100000) (kont : ∀ (k' n' : Nat) (M' : s_M) (sz' : Int), k' ≤ k + 1 → n' ≤ n + 6 → Go g k' n' sh M' sz' 1224 [(4, vi i), (3, vr (o + 276)), (2, vr (o + 247)), (1, vr o), (0, vr (b : Int))] []) : Go g k n sh M (o + 277) 232 [(4, vi i), (3, vr (o + 276)), (2, vr (o + 247)), (1, vr o), (0, vr (b : Int))] [] := by
  have hSr := scr_rng xs
  refine go_aload_n X d_Law_law_232 rfl rfl ?_
  refine go_cV (st2 := []) (r := []) X k_Law_84 (f_erase l D hcf.1 hcf.2.2.2.2.1 ) hcf.1.1 rfl rfl (by omega) (Nat.le_of_ble_eq_true rfl) d_Law_law_233 (by omega) (by omega) (fun v' sh' M1 sz1 hp => ?_)
  obtain ⟨e1, e2, e3, _, f1⟩ := hp
  subst e1
  rw [e2, e3]
  show Go g k n sh M1 (o + 277) 236 [(4, vi i), (3, vr (o + 276)), (2, vr (o + 247)), (1, vr o), (0, vr (b : Int))] [vi 0]
  have hmk := hmk0.mv (sh' := sh) (M' := M1) (fun z h1 h2 => ⟨rfl, f1 z (by show ¬ (o + 1 ≤ z ∧ z ≤ o + 246); omega)⟩)
  refine go_aload_n X d_Law_law_236 rfl rfl ?_
  refine go_cV (st2 := []) (r := [vi 0]) X k_Law_87 (m_erase l D hmk.mds (by decide) (hmk.zero (f := 2) (by decide) (by decide))) hmk.1 rfl rfl (by omega) (Nat.le_of_ble_eq_true rfl) d_Law_law_237 (by omega) (by omega) (fun v' sh' M2 sz2 hp => ?_)
  obtain ⟨bb, e4, hb, hbr, e5, e6, hthr, hmd, f2⟩ := hp
  subst e4
  rw [e5, e6]
  show Go g k n sh M2 (o + 277) 240 [(4, vi i), (3, vr (o + 276)), (2, vr (o + 247)), (1, vr o), (0, vr (b : Int))] [vi bb, vi 0]
  have hb1 := hb rfl
  refine go_icmp_eq (tgt := 1224) X d_Law_law_240 rfl (by omega) (by omega) (fun _ => ?_) (fun h9 => absurd (show 0 = bb by omega) h9)
  refine go_lv (lv' := [(4, vi i), (3, vr (o + 276)), (2, vr (o + 247)), (1, vr o), (0, vr (b : Int))]) X [0, 1, 2, 3, 4] rfl ?_
  exact kont _ _ M2 _ (by omega) (by omega)
set_option maxHeartbeats 4000000 in
set_option maxRecDepth 100000 in
theorem lw_read {l : Launch} (hl : l.stackTraces = false) {D : va_G} {nm : String} {d mc ms : Nat} {sh0 : s_S} {sz0 : Int} {Po : s_Po} {g : g_X} {k n : Nat} (X : Cx l D code "CiteForgeLaw" nm 8 ret d mc ms sh0 sz0 Po g) (YY : y_C sh0 sz0 [] g) (hd0 : 20 ≤ d) (hk0 : k + 1 ≤ mc) (hn0 : n + 6 ≤ ms) {sh : s_S} {M : s_M} {o i : Int} {b N : Nat} {xs : Nat → Int32} (Z : z_C b N xs g) (hcf : cf0 sh M o) (hmk0 : mks sh M (o + 247) mL) (hq : sh (o + 276) = some (.inr (.long, 1))) (hi : 0 ≤ i ∧ i + 5 ≤ N) (hN : N ≤ 100000) (kont : ∀ (k' n' : Nat) (M' : s_M) (sz' : Int), k' ≤ k + 1 → n' ≤ n + 6 → Go g k' n' sh M' sz' 1224 [(4, vi i), (3, vr (o + 276)), (2, vr (o + 247)), (1, vr o), (0, vr (b : Int))] []) : Go g k n sh M (o + 277) 245 [(4, vi i), (3, vr (o + 276)), (2, vr (o + 247)), (1, vr o), (0, vr (b : Int))] [] := by
  have hSr := scr_rng xs
  refine go_aload_n X d_Law_law_245 rfl rfl ?_
  refine go_cV (st2 := []) (r := []) X k_Law_88 (f_read0 l D hcf.1 hcf.2.2.2.1 hcf.2.2.2.2.1 hcf.2.2.2.2.2.1 rfl) hcf.1.1 rfl rfl (by omega) (Nat.le_of_ble_eq_true rfl) d_Law_law_246 (by omega) (by omega) (fun v' sh' M1 sz1 hp => ?_)
  obtain ⟨e1, e2, e3, _, _, _, f1⟩ := hp
  subst e1
  rw [e2, e3]
  show Go g k n sh M1 (o + 277) 249 [(4, vi i), (3, vr (o + 276)), (2, vr (o + 247)), (1, vr o), (0, vr (b : Int))] [vi 0]
  have hmk := hmk0.mv (sh' := sh) (M' := M1) (fun z h1 h2 => ⟨rfl, f1 z (by show ¬ (o + 1 ≤ z ∧ z ≤ o + 246); omega)⟩)
  refine go_aload_n X d_Law_law_249 rfl rfl ?_
  refine go_cV (st2 := []) (r := [vi 0]) X k_Law_91 (m_read0 l D hmk.mds (hmk.zero (f := 2) (by decide) (by decide))) hmk.1 rfl rfl (by omega) (Nat.le_of_ble_eq_true rfl) d_Law_law_250 (by omega) (by omega) (fun v' sh' M2 sz2 hp => ?_)
  obtain ⟨bb, e4, hb, hbr, e5, e6, hthr, hmd, f2⟩ := hp
  subst e4
  rw [e5, e6]
  show Go g k n sh M2 (o + 277) 253 [(4, vi i), (3, vr (o + 276)), (2, vr (o + 247)), (1, vr o), (0, vr (b : Int))] [vi bb, vi 0]
  have hb1 := hb rfl
  refine go_icmp_eq (tgt := 1224) X d_Law_law_253 rfl (by omega) (by omega) (fun _ => ?_) (fun h9 => absurd (show 0 = bb by omega) h9)
  refine go_lv (lv' := [(4, vi i), (3, vr (o + 276)), (2, vr (o + 247)), (1, vr o), (0, vr (b : Int))]) X [0, 1, 2, 3, 4] rfl ?_
  exact kont _ _ M2 _ (by omega) (by omega)
set_option maxHeartbeats 4000000 in
set_option maxRecDepth 100000 in
theorem lw_cite {l : Launch} (hl : l.stackTraces = false) {D : va_G} {nm : String} {d mc ms : Nat} {sh0 : s_S} {sz0 : Int} {Po : s_Po} {g : g_X} {k n : Nat} (X : Cx l D code "CiteForgeLaw" nm 8 ret d mc ms sh0 sz0 Po g) (YY : y_C sh0 sz0 [] g) (hd0 : 20 ≤ d) (hk0 : k + 1 ≤ mc) (hn0 : n + 6 ≤ ms) {sh : s_S} {M : s_M} {o i : Int} {b N : Nat} {xs : Nat → Int32} (Z : z_C b N xs g) (hcf : cf0 sh M o) (hmk0 : mks sh M (o + 247) mL) (hq : sh (o + 276) = some (.inr (.long, 1))) (hi : 0 ≤ i ∧ i + 5 ≤ N) (hN : N ≤ 100000) (kont : ∀ (k' n' : Nat) (M' : s_M) (sz' : Int), k' ≤ k + 1 → n' ≤ n + 6 → Go g k' n' sh M' sz' 1224 [(4, vi i), (3, vr (o + 276)), (2, vr (o + 247)), (1, vr o), (0, vr (b : Int))] []) : Go g k n sh M (o + 277) 258 [(4, vi i), (3, vr (o + 276)), (2, vr (o + 247)), (1, vr o), (0, vr (b : Int))] [] := by
  have hSr := scr_rng xs
  refine go_aload_n X d_Law_law_258 rfl rfl ?_
  refine go_aload_n X d_Law_law_259 rfl rfl ?_
  refine go_iload X d_Law_law_260 rfl ?_
  refine go_iconst (v := 1) X d_Law_law_262 ?_
  refine go_iadd X d_Law_law_263 ?_
  refine go_scr X Z (by omega) (by omega) d_Law_law_264 ?_
  refine go_i2l X d_Law_law_265 (by have := hSr (i + 1); omega) ?_
  refine go_bipush (v := 32) X d_Law_law_266 (by decide) ?_
  refine go_lshl (z := lsh_ (scr_ xs (i + 1)) 32) X d_Law_law_268 (Int64.ofInt_toInt _).symm ?_
  refine go_aload_n X d_Law_law_269 rfl rfl ?_
  refine go_iload X d_Law_law_270 rfl ?_
  refine go_iconst (v := 2) X d_Law_law_272 ?_
  refine go_iadd X d_Law_law_273 ?_
  refine go_scr X Z (by omega) (by omega) d_Law_law_274 ?_
  refine go_i2l X d_Law_law_275 (by have := hSr (i + 2); omega) ?_
  refine go_ldc2 (x := 4294967295) X w_kl_Law_72 (by decide) d_Law_law_276 ?_
  refine go_land (z := lan_ (scr_ xs (i + 2)) 4294967295) X d_Law_law_279 (Int64.ofInt_toInt _).symm ?_
  refine go_lor (z := lor_ (lsh_ (scr_ xs (i + 1)) 32) (lan_ (scr_ xs (i + 2)) 4294967295)) X d_Law_law_280 (Int64.ofInt_toInt _).symm ?_
  refine go_top (v' := vl (u64 (lor_ (lsh_ (scr_ xs (i + 1)) 32) (lan_ (scr_ xs (i + 2)) 4294967295)))) X (u64_vl _) ?_
  refine go_aload_n X d_Law_law_281 rfl rfl ?_
  refine go_callSW (r := []) (np := 3) X YY lw_cite_c lw_ini (by decide +kernel) lw_cite_l lw_cite_s (h_cite l hl D hcf.1 hcf.2.2.2.2.2.1 (u64_rng _) hq (by omega)) rfl rfl (by omega) (by decide) (by omega) (by omega) (Nat.le_of_ble_eq_true rfl) d_Law_law_282 (fun v' sh' M1 sz1 hp => ?_)
  obtain ⟨kc, vv, hkc, hvv, hkr, e1, e2, hval, hsz, f1⟩ := hp
  subst e1
  rw [e2]
  show Go g (k + 1) (n + 6) sh M1 sz1 285 [(4, vi i), (3, vr (o + 276)), (2, vr (o + 247)), (1, vr o), (0, vr (b : Int))] [vi kc]
  have hmk := hmk0.mv (sh' := sh) (M' := M1) (fun z h1 h2 => ⟨rfl, f1 z (by show ¬ ((o + 1 ≤ z ∧ z ≤ o + 246) ∨ z = o + 276); omega)⟩)
  refine go_istore (lv' := [(5, vi kc), (4, vi i), (3, vr (o + 276)), (2, vr (o + 247)), (1, vr o), (0, vr (b : Int))]) X d_Law_law_285 (by decide) rfl ?_
  refine go_aload_n X d_Law_law_287 rfl rfl ?_
  refine go_aload_n X d_Law_law_288 rfl rfl ?_
  refine go_iload X d_Law_law_289 rfl ?_
  refine go_iconst (v := 1) X d_Law_law_291 ?_
  refine go_iadd X d_Law_law_292 ?_
  refine go_scr X Z (by omega) (by omega) d_Law_law_293 ?_
  refine go_i2l X d_Law_law_294 (by have := hSr (i + 1); omega) ?_
  refine go_bipush (v := 32) X d_Law_law_295 (by decide) ?_
  refine go_lshl (z := lsh_ (scr_ xs (i + 1)) 32) X d_Law_law_297 (Int64.ofInt_toInt _).symm ?_
  refine go_aload_n X d_Law_law_298 rfl rfl ?_
  refine go_iload X d_Law_law_299 rfl ?_
  refine go_iconst (v := 2) X d_Law_law_301 ?_
  refine go_iadd X d_Law_law_302 ?_
  refine go_scr X Z (by omega) (by omega) d_Law_law_303 ?_
  refine go_i2l X d_Law_law_304 (by have := hSr (i + 2); omega) ?_
  refine go_ldc2 (x := 4294967295) X w_kl_Law_72 (by decide) d_Law_law_305 ?_
  refine go_land (z := lan_ (scr_ xs (i + 2)) 4294967295) X d_Law_law_308 (Int64.ofInt_toInt _).symm ?_
  refine go_lor (z := lor_ (lsh_ (scr_ xs (i + 1)) 32) (lan_ (scr_ xs (i + 2)) 4294967295)) X d_Law_law_309 (Int64.ofInt_toInt _).symm ?_
  refine go_top (v' := vl (u64 (lor_ (lsh_ (scr_ xs (i + 1)) 32) (lan_ (scr_ xs (i + 2)) 4294967295)))) X (u64_vl _) ?_
  refine go_cV (st2 := []) (r := []) X k_Law_95 (m_cite l D hmk.mds (u64_rng _) (by decide) (fun _ => by decide) (hmk.zero (f := 13) (by decide) (by decide)) ((hmk.2.2.1 9 _ rfl).2.2.1)) hmk.1 rfl rfl (by omega) (Nat.le_of_ble_eq_true rfl) d_Law_law_310 (by omega) (by omega) (fun v' sh' M2 sz2 hp => ?_)
  obtain ⟨bb, e4, hb, hbr, e5, e6, hthr, hmd, f2⟩ := hp
  subst e4
  rw [e5, e6]
  show Go g (k + 1) (n + 6) sh M2 (sz1) 313 [(5, vi kc), (4, vi i), (3, vr (o + 276)), (2, vr (o + 247)), (1, vr o), (0, vr (b : Int))] [vi bb]
  have hthr2 : M2 (o + 247) 0 = kc := hthr.trans hkc.symm
  have hb2 : kc = 0 → bb = vv := fun q => (hb (hkc.symm.trans q)).trans hvv.symm
  have hval2 : kc = 0 → M2 (o + 276) 0 = vv ∧ rL vv := fun q => ⟨(congrFun (f2 (o + 276) (by omega)) _).trans (hval q).1, (hval q).2⟩
  refine go_istore (lv' := [(6, vi bb), (5, vi kc), (4, vi i), (3, vr (o + 276)), (2, vr (o + 247)), (1, vr o), (0, vr (b : Int))]) X d_Law_law_313 (by decide) rfl ?_
  refine go_aload_n X d_Law_law_315 rfl rfl ?_
  refine go_cVf (st2 := [vi kc]) (r := []) X k_Law_80 (m_thrown l D hmd.1 hthr2) hmk0.1 rfl rfl (by omega) (Nat.le_of_ble_eq_true rfl) d_Law_law_316 (by omega) (by omega) rfl ?_
  refine go_iload X d_Law_law_319 rfl ?_
  refine go_icmp_eq (tgt := 326) X d_Law_law_321 rfl (by omega) (by omega) (fun _ => ?_) (fun h9 => absurd (show kc = kc by omega) h9)
  refine go_iload X d_Law_law_326 rfl ?_
  refine go_if_ne (tgt := 350) X d_Law_law_328 rfl (by omega) (fun hq1 => ?_) (fun hq1 => ?_)
  · skip
    refine go_goto (tgt := 1224) X d_Law_law_350 rfl ?_
    refine go_lv (lv' := [(4, vi i), (3, vr (o + 276)), (2, vr (o + 247)), (1, vr o), (0, vr (b : Int))]) X [2, 3, 4, 5, 6] rfl ?_
    exact kont _ _ M2 _ (by omega) (by omega)
  · skip
    obtain ⟨hv1, hv2⟩ := hval2 hq1
    have hb3 := hb2 hq1
    have hz9 : vv = 0 ∨ vv = 1 := by rw [hvv]; exact civl_rng _ _ _
    refine go_aload_n X d_Law_law_331 rfl rfl ?_
    refine go_iconst (v := 0) X d_Law_law_332 ?_
    refine go_lald X hq (by omega) (by omega) d_Law_law_333 ?_
    refine go_top (v' := vl vv) X (by rw [hv1]) ?_
    refine go_iload X d_Law_law_334 rfl ?_
    refine go_if_eq (tgt := 343) X d_Law_law_336 rfl (by omega) (fun hq2 => ?_) (fun hq2 => ?_)
    · skip
      refine go_lconst (x := 0) X d_Law_law_343 (by decide) ?_
      refine go_lcmp X (by omega) (by omega) d_Law_law_344 ?_
      refine go_top (v' := vi 0) X (by rw [show vv = 0 by omega, s_cmp_self]) ?_
      refine go_if_eq (tgt := 350) X d_Law_law_345 rfl (by omega) (fun _ => ?_) (fun h9 => absurd h9 (by decide))
      refine go_goto (tgt := 1224) X d_Law_law_350 rfl ?_
      refine go_lv (lv' := [(4, vi i), (3, vr (o + 276)), (2, vr (o + 247)), (1, vr o), (0, vr (b : Int))]) X [2, 3, 4, 5, 6] rfl ?_
      exact kont _ _ M2 _ (by omega) (by omega)
    · skip
      refine go_lconst (x := 1) X d_Law_law_339 (by decide) ?_
      refine go_goto (tgt := 344) X d_Law_law_340 rfl ?_
      refine go_lcmp X (by omega) (by omega) d_Law_law_344 ?_
      refine go_top (v' := vi 0) X (by rw [show vv = 1 by omega, s_cmp_self]) ?_
      refine go_if_eq (tgt := 350) X d_Law_law_345 rfl (by omega) (fun _ => ?_) (fun h9 => absurd h9 (by decide))
      refine go_goto (tgt := 1224) X d_Law_law_350 rfl ?_
      refine go_lv (lv' := [(4, vi i), (3, vr (o + 276)), (2, vr (o + 247)), (1, vr o), (0, vr (b : Int))]) X [2, 3, 4, 5, 6] rfl ?_
      exact kont _ _ M2 _ (by omega) (by omega)
set_option maxHeartbeats 4000000 in
set_option maxRecDepth 100000 in
theorem lw_forget {l : Launch} (hl : l.stackTraces = false) {D : va_G} {nm : String} {d mc ms : Nat} {sh0 : s_S} {sz0 : Int} {Po : s_Po} {g : g_X} {k n : Nat} (X : Cx l D code "CiteForgeLaw" nm 8 ret d mc ms sh0 sz0 Po g) (YY : y_C sh0 sz0 [] g) (hd0 : 20 ≤ d) (hk0 : k + 1 ≤ mc) (hn0 : n + 6 ≤ ms) {sh : s_S} {M : s_M} {o i : Int} {b N : Nat} {xs : Nat → Int32} (Z : z_C b N xs g) (hcf : cf0 sh M o) (hmk0 : mks sh M (o + 247) mL) (hq : sh (o + 276) = some (.inr (.long, 1))) (hi : 0 ≤ i ∧ i + 5 ≤ N) (hN : N ≤ 100000) (kont : ∀ (k' n' : Nat) (M' : s_M) (sz' : Int), k' ≤ k + 1 → n' ≤ n + 6 → Go g k' n' sh M' sz' 1224 [(4, vi i), (3, vr (o + 276)), (2, vr (o + 247)), (1, vr o), (0, vr (b : Int))] []) : Go g k n sh M (o + 277) 353 [(4, vi i), (3, vr (o + 276)), (2, vr (o + 247)), (1, vr o), (0, vr (b : Int))] [] := by
  have hSr := scr_rng xs
  refine go_aload_n X d_Law_law_353 rfl rfl ?_
  refine go_cV (st2 := []) (r := []) X k_Law_96 (f_forget l D hcf.1 hcf.2.2.2.2.2.1 ) hcf.1.1 rfl rfl (by omega) (Nat.le_of_ble_eq_true rfl) d_Law_law_354 (by omega) (by omega) (fun v' sh' M1 sz1 hp => ?_)
  obtain ⟨e1, e2, e3, _, f1⟩ := hp
  subst e1
  rw [e2, e3]
  show Go g k n sh M1 (o + 277) 357 [(4, vi i), (3, vr (o + 276)), (2, vr (o + 247)), (1, vr o), (0, vr (b : Int))] [vi 0]
  have hmk := hmk0.mv (sh' := sh) (M' := M1) (fun z h1 h2 => ⟨rfl, f1 z (by show ¬ (o + 1 ≤ z ∧ z ≤ o + 246); omega)⟩)
  refine go_aload_n X d_Law_law_357 rfl rfl ?_
  refine go_cV (st2 := []) (r := [vi 0]) X k_Law_99 (m_forget l D hmk.mds (by decide) (hmk.zero (f := 13) (by decide) (by decide))) hmk.1 rfl rfl (by omega) (Nat.le_of_ble_eq_true rfl) d_Law_law_358 (by omega) (by omega) (fun v' sh' M2 sz2 hp => ?_)
  obtain ⟨bb, e4, hb, hbr, e5, e6, hthr, hmd, f2⟩ := hp
  subst e4
  rw [e5, e6]
  show Go g k n sh M2 (o + 277) 361 [(4, vi i), (3, vr (o + 276)), (2, vr (o + 247)), (1, vr o), (0, vr (b : Int))] [vi bb, vi 0]
  have hb1 := hb rfl
  refine go_icmp_eq (tgt := 1224) X d_Law_law_361 rfl (by omega) (by omega) (fun _ => ?_) (fun h9 => absurd (show 0 = bb by omega) h9)
  refine go_lv (lv' := [(4, vi i), (3, vr (o + 276)), (2, vr (o + 247)), (1, vr o), (0, vr (b : Int))]) X [0, 1, 2, 3, 4] rfl ?_
  exact kont _ _ M2 _ (by omega) (by omega)
set_option maxHeartbeats 4000000 in
set_option maxRecDepth 100000 in
theorem lw_list {l : Launch} (hl : l.stackTraces = false) {D : va_G} {nm : String} {d mc ms : Nat} {sh0 : s_S} {sz0 : Int} {Po : s_Po} {g : g_X} {k n : Nat} (X : Cx l D code "CiteForgeLaw" nm 8 ret d mc ms sh0 sz0 Po g) (YY : y_C sh0 sz0 [] g) (hd0 : 20 ≤ d) (hk0 : k + 1 ≤ mc) (hn0 : n + 6 ≤ ms) {sh : s_S} {M : s_M} {o i : Int} {b N : Nat} {xs : Nat → Int32} (Z : z_C b N xs g) (hcf : cf0 sh M o) (hmk0 : mks sh M (o + 247) mL) (hq : sh (o + 276) = some (.inr (.long, 1))) (hi : 0 ≤ i ∧ i + 5 ≤ N) (hN : N ≤ 100000) (kont : ∀ (k' n' : Nat) (M' : s_M) (sz' : Int), k' ≤ k + 1 → n' ≤ n + 6 → Go g k' n' sh M' sz' 1224 [(4, vi i), (3, vr (o + 276)), (2, vr (o + 247)), (1, vr o), (0, vr (b : Int))] []) : Go g k n sh M (o + 277) 366 [(4, vi i), (3, vr (o + 276)), (2, vr (o + 247)), (1, vr o), (0, vr (b : Int))] [] := by
  have hSr := scr_rng xs
  refine go_aload_n X d_Law_law_366 rfl rfl ?_
  refine go_aload_n X d_Law_law_367 rfl rfl ?_
  refine go_iload X d_Law_law_368 rfl ?_
  refine go_iconst (v := 1) X d_Law_law_370 ?_
  refine go_iadd X d_Law_law_371 ?_
  refine go_scr X Z (by omega) (by omega) d_Law_law_372 ?_
  refine go_aload_n X d_Law_law_373 rfl rfl ?_
  refine go_callSW (r := []) (np := 3) X YY lw_list_c lw_ini (by decide +kernel) lw_list_l lw_list_s (h_list l hl D hcf.1 hcf.2.2.2.1 hcf.2.2.2.2.2.1 (hSr _) rfl rfl hq (by omega)) rfl rfl (by omega) (by decide) (by omega) (by omega) (Nat.le_of_ble_eq_true rfl) d_Law_law_374 (fun v' sh' M1 sz1 hp => ?_)
  obtain ⟨kc, vv, hkc, hvv, hkr, e1, e2, hval, hsz, f1⟩ := hp
  subst e1
  rw [e2]
  show Go g (k + 1) (n + 6) sh M1 sz1 377 [(4, vi i), (3, vr (o + 276)), (2, vr (o + 247)), (1, vr o), (0, vr (b : Int))] [vi kc]
  have hmk := hmk0.mv (sh' := sh) (M' := M1) (fun z h1 h2 => ⟨rfl, f1 z (by show ¬ ((o + 1 ≤ z ∧ z ≤ o + 246) ∨ z = o + 276); omega)⟩)
  refine go_istore (lv' := [(5, vi kc), (4, vi i), (3, vr (o + 276)), (2, vr (o + 247)), (1, vr o), (0, vr (b : Int))]) X d_Law_law_377 (by decide) rfl ?_
  refine go_aload_n X d_Law_law_379 rfl rfl ?_
  refine go_aload_n X d_Law_law_380 rfl rfl ?_
  refine go_iload X d_Law_law_381 rfl ?_
  refine go_iconst (v := 1) X d_Law_law_383 ?_
  refine go_iadd X d_Law_law_384 ?_
  refine go_scr X Z (by omega) (by omega) d_Law_law_385 ?_
  refine go_cV (st2 := []) (r := []) X k_Law_103 (m_list0 l D hmk.mds (hSr _) (hmk.zero (f := 13) (by decide) (by decide)) (hmk.zero (f := 6) (by decide) (by decide))) hmk.1 rfl rfl (by omega) (Nat.le_of_ble_eq_true rfl) d_Law_law_386 (by omega) (by omega) (fun v' sh' M2 sz2 hp => ?_)
  obtain ⟨bb, e4, hb, hbr, e5, e6, hthr, hmd, f2⟩ := hp
  subst e4
  rw [e5, e6]
  show Go g (k + 1) (n + 6) sh M2 (sz1) 389 [(5, vi kc), (4, vi i), (3, vr (o + 276)), (2, vr (o + 247)), (1, vr o), (0, vr (b : Int))] [vi bb]
  have hthr2 : M2 (o + 247) 0 = kc := hthr.trans hkc.symm
  have hb2 : kc = 0 → bb = vv := fun q => (hb (hkc.symm.trans q)).trans hvv.symm
  have hval2 : kc = 0 → M2 (o + 276) 0 = vv ∧ rL vv := fun q => ⟨(congrFun (f2 (o + 276) (by omega)) _).trans (hval q).1, (hval q).2⟩
  refine go_istore (lv' := [(6, vi bb), (5, vi kc), (4, vi i), (3, vr (o + 276)), (2, vr (o + 247)), (1, vr o), (0, vr (b : Int))]) X d_Law_law_389 (by decide) rfl ?_
  refine go_aload_n X d_Law_law_391 rfl rfl ?_
  refine go_cVf (st2 := [vi kc]) (r := []) X k_Law_80 (m_thrown l D hmd.1 hthr2) hmk0.1 rfl rfl (by omega) (Nat.le_of_ble_eq_true rfl) d_Law_law_392 (by omega) (by omega) rfl ?_
  refine go_iload X d_Law_law_395 rfl ?_
  refine go_icmp_eq (tgt := 402) X d_Law_law_397 rfl (by omega) (by omega) (fun _ => ?_) (fun h9 => absurd (show kc = kc by omega) h9)
  refine go_iload X d_Law_law_402 rfl ?_
  refine go_if_ne (tgt := 419) X d_Law_law_404 rfl (by omega) (fun hq1 => ?_) (fun hq1 => ?_)
  · skip
    refine go_goto (tgt := 1224) X d_Law_law_419 rfl ?_
    refine go_lv (lv' := [(4, vi i), (3, vr (o + 276)), (2, vr (o + 247)), (1, vr o), (0, vr (b : Int))]) X [2, 3, 4, 5, 6] rfl ?_
    exact kont _ _ M2 _ (by omega) (by omega)
  · skip
    obtain ⟨hv1, hv2⟩ := hval2 hq1
    have hb3 := hb2 hq1
    refine go_aload_n X d_Law_law_407 rfl rfl ?_
    refine go_iconst (v := 0) X d_Law_law_408 ?_
    refine go_lald X hq (by omega) (by omega) d_Law_law_409 ?_
    refine go_top (v' := vl vv) X (by rw [hv1]) ?_
    refine go_iload X d_Law_law_410 rfl ?_
    refine go_i2l X d_Law_law_412 (by omega) ?_
    refine go_lcmp X (by omega) (by omega) d_Law_law_413 ?_
    refine go_top (v' := vi 0) X (by rw [show vv = bb by omega, s_cmp_self]) ?_
    refine go_if_eq (tgt := 419) X d_Law_law_414 rfl (by omega) (fun _ => ?_) (fun h9 => absurd h9 (by decide))
    refine go_goto (tgt := 1224) X d_Law_law_419 rfl ?_
    refine go_lv (lv' := [(4, vi i), (3, vr (o + 276)), (2, vr (o + 247)), (1, vr o), (0, vr (b : Int))]) X [2, 3, 4, 5, 6] rfl ?_
    exact kont _ _ M2 _ (by omega) (by omega)
set_option maxHeartbeats 4000000 in
set_option maxRecDepth 100000 in
theorem lw_key {l : Launch} (hl : l.stackTraces = false) {D : va_G} {nm : String} {d mc ms : Nat} {sh0 : s_S} {sz0 : Int} {Po : s_Po} {g : g_X} {k n : Nat} (X : Cx l D code "CiteForgeLaw" nm 8 ret d mc ms sh0 sz0 Po g) (YY : y_C sh0 sz0 [] g) (hd0 : 20 ≤ d) (hk0 : k + 1 ≤ mc) (hn0 : n + 6 ≤ ms) {sh : s_S} {M : s_M} {o i : Int} {b N : Nat} {xs : Nat → Int32} (Z : z_C b N xs g) (hcf : cf0 sh M o) (hmk0 : mks sh M (o + 247) mL) (hq : sh (o + 276) = some (.inr (.long, 1))) (hi : 0 ≤ i ∧ i + 5 ≤ N) (hN : N ≤ 100000) (kont : ∀ (k' n' : Nat) (M' : s_M) (sz' : Int), k' ≤ k + 1 → n' ≤ n + 6 → Go g k' n' sh M' sz' 1224 [(4, vi i), (3, vr (o + 276)), (2, vr (o + 247)), (1, vr o), (0, vr (b : Int))] []) : Go g k n sh M (o + 277) 422 [(4, vi i), (3, vr (o + 276)), (2, vr (o + 247)), (1, vr o), (0, vr (b : Int))] [] := by
  have hSr := scr_rng xs
  refine go_aload_n X d_Law_law_422 rfl rfl ?_
  refine go_aload_n X d_Law_law_423 rfl rfl ?_
  refine go_iload X d_Law_law_424 rfl ?_
  refine go_iconst (v := 1) X d_Law_law_426 ?_
  refine go_iadd X d_Law_law_427 ?_
  refine go_scr X Z (by omega) (by omega) d_Law_law_428 ?_
  refine go_aload_n X d_Law_law_429 rfl rfl ?_
  refine go_callSW (r := []) (np := 3) X YY lw_key_c lw_ini (by decide +kernel) lw_key_l lw_key_s (h_key l hl D hcf.1 hcf.2.2.2.2.2.1 (hSr _) rfl hq (by omega)) rfl rfl (by omega) (by decide) (by omega) (by omega) (Nat.le_of_ble_eq_true rfl) d_Law_law_430 (fun v' sh' M1 sz1 hp => ?_)
  obtain ⟨kc, vv, hkc, hvv, hkr, e1, e2, hval, hsz, f1⟩ := hp
  subst e1
  rw [e2]
  show Go g (k + 1) (n + 6) sh M1 sz1 433 [(4, vi i), (3, vr (o + 276)), (2, vr (o + 247)), (1, vr o), (0, vr (b : Int))] [vi kc]
  have hmk := hmk0.mv (sh' := sh) (M' := M1) (fun z h1 h2 => ⟨rfl, f1 z (by show ¬ ((o + 1 ≤ z ∧ z ≤ o + 246) ∨ z = o + 276); omega)⟩)
  refine go_istore (lv' := [(5, vi kc), (4, vi i), (3, vr (o + 276)), (2, vr (o + 247)), (1, vr o), (0, vr (b : Int))]) X d_Law_law_433 (by decide) rfl ?_
  refine go_aload_n X d_Law_law_435 rfl rfl ?_
  refine go_aload_n X d_Law_law_436 rfl rfl ?_
  refine go_iload X d_Law_law_437 rfl ?_
  refine go_iconst (v := 1) X d_Law_law_439 ?_
  refine go_iadd X d_Law_law_440 ?_
  refine go_scr X Z (by omega) (by omega) d_Law_law_441 ?_
  refine go_cV (st2 := []) (r := []) X k_Law_106 (m_key0 l D hmk.mds (hSr _) (hmk.zero (f := 15) (by decide) (by decide))) hmk.1 rfl rfl (by omega) (Nat.le_of_ble_eq_true rfl) d_Law_law_442 (by omega) (by omega) (fun v' sh' M2 sz2 hp => ?_)
  obtain ⟨bb, e4, hb, hbr, e5, e6, hthr, hmd, f2⟩ := hp
  subst e4
  rw [e5, e6]
  show Go g (k + 1) (n + 6) sh M2 (sz1) 445 [(5, vi kc), (4, vi i), (3, vr (o + 276)), (2, vr (o + 247)), (1, vr o), (0, vr (b : Int))] [vl bb]
  have hthr2 : M2 (o + 247) 0 = kc := hthr.trans hkc.symm
  have hb2 : kc = 0 → bb = vv := fun q => (hb (hkc.symm.trans q)).trans hvv.symm
  have hval2 : kc = 0 → M2 (o + 276) 0 = vv ∧ rL vv := fun q => ⟨(congrFun (f2 (o + 276) (by omega)) _).trans (hval q).1, (hval q).2⟩
  refine go_lstore (lv' := [(6, vl bb), (5, vi kc), (4, vi i), (3, vr (o + 276)), (2, vr (o + 247)), (1, vr o), (0, vr (b : Int))]) X d_Law_law_445 (by decide) rfl ?_
  refine go_aload_n X d_Law_law_447 rfl rfl ?_
  refine go_cVf (st2 := [vi kc]) (r := []) X k_Law_80 (m_thrown l D hmd.1 hthr2) hmk0.1 rfl rfl (by omega) (Nat.le_of_ble_eq_true rfl) d_Law_law_448 (by omega) (by omega) rfl ?_
  refine go_iload X d_Law_law_451 rfl ?_
  refine go_icmp_eq (tgt := 458) X d_Law_law_453 rfl (by omega) (by omega) (fun _ => ?_) (fun h9 => absurd (show kc = kc by omega) h9)
  refine go_iload X d_Law_law_458 rfl ?_
  refine go_if_ne (tgt := 474) X d_Law_law_460 rfl (by omega) (fun hq1 => ?_) (fun hq1 => ?_)
  · skip
    refine go_goto (tgt := 1224) X d_Law_law_474 rfl ?_
    refine go_lv (lv' := [(4, vi i), (3, vr (o + 276)), (2, vr (o + 247)), (1, vr o), (0, vr (b : Int))]) X [2, 3, 4, 5, 6] rfl ?_
    exact kont _ _ M2 _ (by omega) (by omega)
  · skip
    obtain ⟨hv1, hv2⟩ := hval2 hq1
    have hb3 := hb2 hq1
    refine go_aload_n X d_Law_law_463 rfl rfl ?_
    refine go_iconst (v := 0) X d_Law_law_464 ?_
    refine go_lald X hq (by omega) (by omega) d_Law_law_465 ?_
    refine go_top (v' := vl vv) X (by rw [hv1]) ?_
    refine go_lload X d_Law_law_466 rfl ?_
    refine go_lcmp X (by omega) (by omega) d_Law_law_468 ?_
    refine go_top (v' := vi 0) X (by rw [show vv = bb by omega, s_cmp_self]) ?_
    refine go_if_eq (tgt := 474) X d_Law_law_469 rfl (by omega) (fun _ => ?_) (fun h9 => absurd h9 (by decide))
    refine go_goto (tgt := 1224) X d_Law_law_474 rfl ?_
    refine go_lv (lv' := [(4, vi i), (3, vr (o + 276)), (2, vr (o + 247)), (1, vr o), (0, vr (b : Int))]) X [2, 3, 4, 5, 6] rfl ?_
    exact kont _ _ M2 _ (by omega) (by omega)
set_option maxHeartbeats 4000000 in
set_option maxRecDepth 100000 in
theorem lw_sort {l : Launch} (hl : l.stackTraces = false) {D : va_G} {nm : String} {d mc ms : Nat} {sh0 : s_S} {sz0 : Int} {Po : s_Po} {g : g_X} {k n : Nat} (X : Cx l D code "CiteForgeLaw" nm 8 ret d mc ms sh0 sz0 Po g) (YY : y_C sh0 sz0 [] g) (hd0 : 20 ≤ d) (hk0 : k + 1 ≤ mc) (hn0 : n + 6 ≤ ms) {sh : s_S} {M : s_M} {o i : Int} {b N : Nat} {xs : Nat → Int32} (Z : z_C b N xs g) (hcf : cf0 sh M o) (hmk0 : mks sh M (o + 247) mL) (hq : sh (o + 276) = some (.inr (.long, 1))) (hi : 0 ≤ i ∧ i + 5 ≤ N) (hN : N ≤ 100000) (kont : ∀ (k' n' : Nat) (M' : s_M) (sz' : Int), k' ≤ k + 1 → n' ≤ n + 6 → Go g k' n' sh M' sz' 1224 [(4, vi i), (3, vr (o + 276)), (2, vr (o + 247)), (1, vr o), (0, vr (b : Int))] []) : Go g k n sh M (o + 277) 477 [(4, vi i), (3, vr (o + 276)), (2, vr (o + 247)), (1, vr o), (0, vr (b : Int))] [] := by
  have hSr := scr_rng xs
  refine go_aload_n X d_Law_law_477 rfl rfl ?_
  refine go_cV (st2 := []) (r := []) X k_Law_107 (f_sort0 l D hcf.1 hcf.2.2.2.2.2.1 rfl) hcf.1.1 rfl rfl (by omega) (Nat.le_of_ble_eq_true rfl) d_Law_law_478 (by omega) (by omega) (fun v' sh' M1 sz1 hp => ?_)
  obtain ⟨e1, e2, e3, f1⟩ := hp
  subst e1
  rw [e2, e3]
  show Go g k n sh M1 (o + 277) 481 [(4, vi i), (3, vr (o + 276)), (2, vr (o + 247)), (1, vr o), (0, vr (b : Int))] [vi 0]
  have hmk := hmk0.mv (sh' := sh) (M' := M1) (fun z h1 h2 => ⟨rfl, f1 z (by show ¬ (o + 1 ≤ z ∧ z ≤ o + 246); omega)⟩)
  refine go_aload_n X d_Law_law_481 rfl rfl ?_
  refine go_cV (st2 := []) (r := [vi 0]) X k_Law_111 (m_sort0 l D hmk.mds (hmk.zero (f := 15) (by decide) (by decide))) hmk.1 rfl rfl (by omega) (Nat.le_of_ble_eq_true rfl) d_Law_law_482 (by omega) (by omega) (fun v' sh' M2 sz2 hp => ?_)
  obtain ⟨bb, e4, hb, hbr, e5, e6, hthr, hmd, f2⟩ := hp
  subst e4
  rw [e5, e6]
  show Go g k n sh M2 (o + 277) 485 [(4, vi i), (3, vr (o + 276)), (2, vr (o + 247)), (1, vr o), (0, vr (b : Int))] [vi bb, vi 0]
  have hb1 := hb rfl
  refine go_icmp_eq (tgt := 1224) X d_Law_law_485 rfl (by omega) (by omega) (fun _ => ?_) (fun h9 => absurd (show 0 = bb by omega) h9)
  refine go_lv (lv' := [(4, vi i), (3, vr (o + 276)), (2, vr (o + 247)), (1, vr o), (0, vr (b : Int))]) X [0, 1, 2, 3, 4] rfl ?_
  exact kont _ _ M2 _ (by omega) (by omega)
set_option maxHeartbeats 4000000 in
set_option maxRecDepth 100000 in
theorem lw_field {l : Launch} (hl : l.stackTraces = false) {D : va_G} {nm : String} {d mc ms : Nat} {sh0 : s_S} {sz0 : Int} {Po : s_Po} {g : g_X} {k n : Nat} (X : Cx l D code "CiteForgeLaw" nm 8 ret d mc ms sh0 sz0 Po g) (YY : y_C sh0 sz0 [] g) (hd0 : 20 ≤ d) (hk0 : k + 1 ≤ mc) (hn0 : n + 6 ≤ ms) {sh : s_S} {M : s_M} {o i : Int} {b N : Nat} {xs : Nat → Int32} (Z : z_C b N xs g) (hcf : cf0 sh M o) (hmk0 : mks sh M (o + 247) mL) (hq : sh (o + 276) = some (.inr (.long, 1))) (hi : 0 ≤ i ∧ i + 5 ≤ N) (hN : N ≤ 100000) (kont : ∀ (k' n' : Nat) (M' : s_M) (sz' : Int), k' ≤ k + 1 → n' ≤ n + 6 → Go g k' n' sh M' sz' 1224 [(4, vi i), (3, vr (o + 276)), (2, vr (o + 247)), (1, vr o), (0, vr (b : Int))] []) : Go g k n sh M (o + 277) 490 [(4, vi i), (3, vr (o + 276)), (2, vr (o + 247)), (1, vr o), (0, vr (b : Int))] [] := by
  have hSr := scr_rng xs
  refine go_aload_n X d_Law_law_490 rfl rfl ?_
  refine go_aload_n X d_Law_law_491 rfl rfl ?_
  refine go_iload X d_Law_law_492 rfl ?_
  refine go_iconst (v := 1) X d_Law_law_494 ?_
  refine go_iadd X d_Law_law_495 ?_
  refine go_scr X Z (by omega) (by omega) d_Law_law_496 ?_
  refine go_aload_n X d_Law_law_497 rfl rfl ?_
  refine go_iload X d_Law_law_498 rfl ?_
  refine go_iconst (v := 2) X d_Law_law_500 ?_
  refine go_iadd X d_Law_law_501 ?_
  refine go_scr X Z (by omega) (by omega) d_Law_law_502 ?_
  refine go_i2l X d_Law_law_503 (by have := hSr (i + 2); omega) ?_
  refine go_bipush (v := 32) X d_Law_law_504 (by decide) ?_
  refine go_lshl (z := lsh_ (scr_ xs (i + 2)) 32) X d_Law_law_506 (Int64.ofInt_toInt _).symm ?_
  refine go_aload_n X d_Law_law_507 rfl rfl ?_
  refine go_iload X d_Law_law_508 rfl ?_
  refine go_iconst (v := 3) X d_Law_law_510 ?_
  refine go_iadd X d_Law_law_511 ?_
  refine go_scr X Z (by omega) (by omega) d_Law_law_512 ?_
  refine go_i2l X d_Law_law_513 (by have := hSr (i + 3); omega) ?_
  refine go_ldc2 (x := 4294967295) X w_kl_Law_72 (by decide) d_Law_law_514 ?_
  refine go_land (z := lan_ (scr_ xs (i + 3)) 4294967295) X d_Law_law_517 (Int64.ofInt_toInt _).symm ?_
  refine go_lor (z := lor_ (lsh_ (scr_ xs (i + 2)) 32) (lan_ (scr_ xs (i + 3)) 4294967295)) X d_Law_law_518 (Int64.ofInt_toInt _).symm ?_
  refine go_top (v' := vl (u64 (lor_ (lsh_ (scr_ xs (i + 2)) 32) (lan_ (scr_ xs (i + 3)) 4294967295)))) X (u64_vl _) ?_
  refine go_aload_n X d_Law_law_519 rfl rfl ?_
  refine go_iload X d_Law_law_520 rfl ?_
  refine go_iconst (v := 4) X d_Law_law_522 ?_
  refine go_iadd X d_Law_law_523 ?_
  refine go_scr X Z (by omega) (by omega) d_Law_law_524 ?_
  refine go_aload_n X d_Law_law_525 rfl rfl ?_
  refine go_callSW (r := []) (np := 5) X YY lw_field_c lw_ini (by decide +kernel) lw_field_l lw_field_s (h_field l hl D hcf.1 hcf.2.2.2.2.2.1 (hSr _) rfl hq (by omega)) rfl rfl (by omega) (by decide) (by omega) (by omega) (Nat.le_of_ble_eq_true rfl) d_Law_law_526 (fun v' sh' M1 sz1 hp => ?_)
  obtain ⟨kc, vv, hkc, hvv, hkr, e1, e2, hval, hsz, f1⟩ := hp
  subst e1
  rw [e2]
  show Go g (k + 1) (n + 6) sh M1 sz1 529 [(4, vi i), (3, vr (o + 276)), (2, vr (o + 247)), (1, vr o), (0, vr (b : Int))] [vi kc]
  have hmk := hmk0.mv (sh' := sh) (M' := M1) (fun z h1 h2 => ⟨rfl, f1 z (by show ¬ ((o + 1 ≤ z ∧ z ≤ o + 246) ∨ z = o + 276); omega)⟩)
  refine go_istore (lv' := [(5, vi kc), (4, vi i), (3, vr (o + 276)), (2, vr (o + 247)), (1, vr o), (0, vr (b : Int))]) X d_Law_law_529 (by decide) rfl ?_
  refine go_aload_n X d_Law_law_531 rfl rfl ?_
  refine go_aload_n X d_Law_law_532 rfl rfl ?_
  refine go_iload X d_Law_law_533 rfl ?_
  refine go_iconst (v := 1) X d_Law_law_535 ?_
  refine go_iadd X d_Law_law_536 ?_
  refine go_scr X Z (by omega) (by omega) d_Law_law_537 ?_
  refine go_aload_n X d_Law_law_538 rfl rfl ?_
  refine go_iload X d_Law_law_539 rfl ?_
  refine go_iconst (v := 2) X d_Law_law_541 ?_
  refine go_iadd X d_Law_law_542 ?_
  refine go_scr X Z (by omega) (by omega) d_Law_law_543 ?_
  refine go_i2l X d_Law_law_544 (by have := hSr (i + 2); omega) ?_
  refine go_bipush (v := 32) X d_Law_law_545 (by decide) ?_
  refine go_lshl (z := lsh_ (scr_ xs (i + 2)) 32) X d_Law_law_547 (Int64.ofInt_toInt _).symm ?_
  refine go_aload_n X d_Law_law_548 rfl rfl ?_
  refine go_iload X d_Law_law_549 rfl ?_
  refine go_iconst (v := 3) X d_Law_law_551 ?_
  refine go_iadd X d_Law_law_552 ?_
  refine go_scr X Z (by omega) (by omega) d_Law_law_553 ?_
  refine go_i2l X d_Law_law_554 (by have := hSr (i + 3); omega) ?_
  refine go_ldc2 (x := 4294967295) X w_kl_Law_72 (by decide) d_Law_law_555 ?_
  refine go_land (z := lan_ (scr_ xs (i + 3)) 4294967295) X d_Law_law_558 (Int64.ofInt_toInt _).symm ?_
  refine go_lor (z := lor_ (lsh_ (scr_ xs (i + 2)) 32) (lan_ (scr_ xs (i + 3)) 4294967295)) X d_Law_law_559 (Int64.ofInt_toInt _).symm ?_
  refine go_top (v' := vl (u64 (lor_ (lsh_ (scr_ xs (i + 2)) 32) (lan_ (scr_ xs (i + 3)) 4294967295)))) X (u64_vl _) ?_
  refine go_aload_n X d_Law_law_560 rfl rfl ?_
  refine go_iload X d_Law_law_561 rfl ?_
  refine go_iconst (v := 4) X d_Law_law_563 ?_
  refine go_iadd X d_Law_law_564 ?_
  refine go_scr X Z (by omega) (by omega) d_Law_law_565 ?_
  refine go_cV (st2 := []) (r := []) X k_Law_115 (m_field0 l D hmk.mds (hSr _) (hmk.zero (f := 15) (by decide) (by decide))) hmk.1 rfl rfl (by omega) (Nat.le_of_ble_eq_true rfl) d_Law_law_566 (by omega) (by omega) (fun v' sh' M2 sz2 hp => ?_)
  obtain ⟨bb, e4, hb, hbr, e5, e6, hthr, hmd, f2⟩ := hp
  subst e4
  rw [e5, e6]
  show Go g (k + 1) (n + 6) sh M2 (sz1) 569 [(5, vi kc), (4, vi i), (3, vr (o + 276)), (2, vr (o + 247)), (1, vr o), (0, vr (b : Int))] [vi bb]
  have hthr2 : M2 (o + 247) 0 = kc := hthr.trans hkc.symm
  have hb2 : kc = 0 → bb = vv := fun q => (hb (hkc.symm.trans q)).trans hvv.symm
  have hval2 : kc = 0 → M2 (o + 276) 0 = vv ∧ rL vv := fun q => ⟨(congrFun (f2 (o + 276) (by omega)) _).trans (hval q).1, (hval q).2⟩
  refine go_istore (lv' := [(6, vi bb), (5, vi kc), (4, vi i), (3, vr (o + 276)), (2, vr (o + 247)), (1, vr o), (0, vr (b : Int))]) X d_Law_law_569 (by decide) rfl ?_
  refine go_aload_n X d_Law_law_571 rfl rfl ?_
  refine go_cVf (st2 := [vi kc]) (r := []) X k_Law_80 (m_thrown l D hmd.1 hthr2) hmk0.1 rfl rfl (by omega) (Nat.le_of_ble_eq_true rfl) d_Law_law_572 (by omega) (by omega) rfl ?_
  refine go_iload X d_Law_law_575 rfl ?_
  refine go_icmp_eq (tgt := 582) X d_Law_law_577 rfl (by omega) (by omega) (fun _ => ?_) (fun h9 => absurd (show kc = kc by omega) h9)
  refine go_iload X d_Law_law_582 rfl ?_
  refine go_if_ne (tgt := 599) X d_Law_law_584 rfl (by omega) (fun hq1 => ?_) (fun hq1 => ?_)
  · skip
    refine go_goto (tgt := 1224) X d_Law_law_599 rfl ?_
    refine go_lv (lv' := [(4, vi i), (3, vr (o + 276)), (2, vr (o + 247)), (1, vr o), (0, vr (b : Int))]) X [2, 3, 4, 5, 6] rfl ?_
    exact kont _ _ M2 _ (by omega) (by omega)
  · skip
    obtain ⟨hv1, hv2⟩ := hval2 hq1
    have hb3 := hb2 hq1
    refine go_aload_n X d_Law_law_587 rfl rfl ?_
    refine go_iconst (v := 0) X d_Law_law_588 ?_
    refine go_lald X hq (by omega) (by omega) d_Law_law_589 ?_
    refine go_top (v' := vl vv) X (by rw [hv1]) ?_
    refine go_iload X d_Law_law_590 rfl ?_
    refine go_i2l X d_Law_law_592 (by omega) ?_
    refine go_lcmp X (by omega) (by omega) d_Law_law_593 ?_
    refine go_top (v' := vi 0) X (by rw [show vv = bb by omega, s_cmp_self]) ?_
    refine go_if_eq (tgt := 599) X d_Law_law_594 rfl (by omega) (fun _ => ?_) (fun h9 => absurd h9 (by decide))
    refine go_goto (tgt := 1224) X d_Law_law_599 rfl ?_
    refine go_lv (lv' := [(4, vi i), (3, vr (o + 276)), (2, vr (o + 247)), (1, vr o), (0, vr (b : Int))]) X [2, 3, 4, 5, 6] rfl ?_
    exact kont _ _ M2 _ (by omega) (by omega)
set_option maxHeartbeats 4000000 in
set_option maxRecDepth 100000 in
theorem lw_define {l : Launch} (hl : l.stackTraces = false) {D : va_G} {nm : String} {d mc ms : Nat} {sh0 : s_S} {sz0 : Int} {Po : s_Po} {g : g_X} {k n : Nat} (X : Cx l D code "CiteForgeLaw" nm 8 ret d mc ms sh0 sz0 Po g) (YY : y_C sh0 sz0 [] g) (hd0 : 20 ≤ d) (hk0 : k + 1 ≤ mc) (hn0 : n + 6 ≤ ms) {sh : s_S} {M : s_M} {o i : Int} {b N : Nat} {xs : Nat → Int32} (Z : z_C b N xs g) (hcf : cf0 sh M o) (hmk0 : mks sh M (o + 247) mL) (hq : sh (o + 276) = some (.inr (.long, 1))) (hi : 0 ≤ i ∧ i + 5 ≤ N) (hN : N ≤ 100000) (kont : ∀ (k' n' : Nat) (M' : s_M) (sz' : Int), k' ≤ k + 1 → n' ≤ n + 6 → Go g k' n' sh M' sz' 1224 [(4, vi i), (3, vr (o + 276)), (2, vr (o + 247)), (1, vr o), (0, vr (b : Int))] []) : Go g k n sh M (o + 277) 602 [(4, vi i), (3, vr (o + 276)), (2, vr (o + 247)), (1, vr o), (0, vr (b : Int))] [] := by
  have hSr := scr_rng xs
  refine go_aload_n X d_Law_law_602 rfl rfl ?_
  refine go_aload_n X d_Law_law_603 rfl rfl ?_
  refine go_iload X d_Law_law_604 rfl ?_
  refine go_iconst (v := 1) X d_Law_law_606 ?_
  refine go_iadd X d_Law_law_607 ?_
  refine go_scr X Z (by omega) (by omega) d_Law_law_608 ?_
  refine go_aload_n X d_Law_law_609 rfl rfl ?_
  refine go_iload X d_Law_law_610 rfl ?_
  refine go_iconst (v := 2) X d_Law_law_612 ?_
  refine go_iadd X d_Law_law_613 ?_
  refine go_scr X Z (by omega) (by omega) d_Law_law_614 ?_
  refine go_aload_n X d_Law_law_615 rfl rfl ?_
  refine go_iload X d_Law_law_616 rfl ?_
  refine go_iconst (v := 3) X d_Law_law_618 ?_
  refine go_iadd X d_Law_law_619 ?_
  refine go_scr X Z (by omega) (by omega) d_Law_law_620 ?_
  refine go_i2l X d_Law_law_621 (by have := hSr (i + 3); omega) ?_
  refine go_bipush (v := 32) X d_Law_law_622 (by decide) ?_
  refine go_lshl (z := lsh_ (scr_ xs (i + 3)) 32) X d_Law_law_624 (Int64.ofInt_toInt _).symm ?_
  refine go_aload_n X d_Law_law_625 rfl rfl ?_
  refine go_iload X d_Law_law_626 rfl ?_
  refine go_iconst (v := 4) X d_Law_law_628 ?_
  refine go_iadd X d_Law_law_629 ?_
  refine go_scr X Z (by omega) (by omega) d_Law_law_630 ?_
  refine go_i2l X d_Law_law_631 (by have := hSr (i + 4); omega) ?_
  refine go_ldc2 (x := 4294967295) X w_kl_Law_72 (by decide) d_Law_law_632 ?_
  refine go_land (z := lan_ (scr_ xs (i + 4)) 4294967295) X d_Law_law_635 (Int64.ofInt_toInt _).symm ?_
  refine go_lor (z := lor_ (lsh_ (scr_ xs (i + 3)) 32) (lan_ (scr_ xs (i + 4)) 4294967295)) X d_Law_law_636 (Int64.ofInt_toInt _).symm ?_
  refine go_aload_n X d_Law_law_637 rfl rfl ?_
  refine go_callSW (r := []) (np := 5) X YY lw_define_c lw_ini (by decide +kernel) lw_define_l lw_define_s (h_define l hl D hcf.1 hcf.2.2.2.2.2.2.2.2 (hSr _) (hSr _) (lor_rng _ _) (fun _ _ _ => by decide) hq (by omega)) rfl rfl (by omega) (by decide) (by omega) (by omega) (Nat.le_of_ble_eq_true rfl) d_Law_law_638 (fun v' sh' M1 sz1 hp => ?_)
  obtain ⟨kc, vv, hkc, hvv, hkr, e1, e2, hval, hsz, f1⟩ := hp
  subst e1
  rw [e2]
  show Go g (k + 1) (n + 6) sh M1 sz1 641 [(4, vi i), (3, vr (o + 276)), (2, vr (o + 247)), (1, vr o), (0, vr (b : Int))] [vi kc]
  have hmk := hmk0.mv (sh' := sh) (M' := M1) (fun z h1 h2 => ⟨rfl, f1 z (by show ¬ ((o + 1 ≤ z ∧ z ≤ o + 246) ∨ z = o + 276); omega)⟩)
  refine go_istore (lv' := [(5, vi kc), (4, vi i), (3, vr (o + 276)), (2, vr (o + 247)), (1, vr o), (0, vr (b : Int))]) X d_Law_law_641 (by decide) rfl ?_
  refine go_aload_n X d_Law_law_643 rfl rfl ?_
  refine go_aload_n X d_Law_law_644 rfl rfl ?_
  refine go_iload X d_Law_law_645 rfl ?_
  refine go_iconst (v := 1) X d_Law_law_647 ?_
  refine go_iadd X d_Law_law_648 ?_
  refine go_scr X Z (by omega) (by omega) d_Law_law_649 ?_
  refine go_aload_n X d_Law_law_650 rfl rfl ?_
  refine go_iload X d_Law_law_651 rfl ?_
  refine go_iconst (v := 2) X d_Law_law_653 ?_
  refine go_iadd X d_Law_law_654 ?_
  refine go_scr X Z (by omega) (by omega) d_Law_law_655 ?_
  refine go_aload_n X d_Law_law_656 rfl rfl ?_
  refine go_iload X d_Law_law_657 rfl ?_
  refine go_iconst (v := 3) X d_Law_law_659 ?_
  refine go_iadd X d_Law_law_660 ?_
  refine go_scr X Z (by omega) (by omega) d_Law_law_661 ?_
  refine go_i2l X d_Law_law_662 (by have := hSr (i + 3); omega) ?_
  refine go_bipush (v := 32) X d_Law_law_663 (by decide) ?_
  refine go_lshl (z := lsh_ (scr_ xs (i + 3)) 32) X d_Law_law_665 (Int64.ofInt_toInt _).symm ?_
  refine go_aload_n X d_Law_law_666 rfl rfl ?_
  refine go_iload X d_Law_law_667 rfl ?_
  refine go_iconst (v := 4) X d_Law_law_669 ?_
  refine go_iadd X d_Law_law_670 ?_
  refine go_scr X Z (by omega) (by omega) d_Law_law_671 ?_
  refine go_i2l X d_Law_law_672 (by have := hSr (i + 4); omega) ?_
  refine go_ldc2 (x := 4294967295) X w_kl_Law_72 (by decide) d_Law_law_673 ?_
  refine go_land (z := lan_ (scr_ xs (i + 4)) 4294967295) X d_Law_law_676 (Int64.ofInt_toInt _).symm ?_
  refine go_lor (z := lor_ (lsh_ (scr_ xs (i + 3)) 32) (lan_ (scr_ xs (i + 4)) 4294967295)) X d_Law_law_677 (Int64.ofInt_toInt _).symm ?_
  refine go_cV (st2 := []) (r := []) X k_Law_119 (m_define l D hmk.mds (hSr _) (hSr _) (lor_rng _ _) (fun _ _ _ => by decide) ((hmk.2.2.1 11 _ rfl).2.2.1)) hmk.1 rfl rfl (by omega) (Nat.le_of_ble_eq_true rfl) d_Law_law_678 (by omega) (by omega) (fun v' sh' M2 sz2 hp => ?_)
  obtain ⟨bb, e4, hb, hbr, e5, e6, hthr, hmd, f2⟩ := hp
  subst e4
  rw [e5, e6]
  show Go g (k + 1) (n + 6) sh M2 (sz1) 681 [(5, vi kc), (4, vi i), (3, vr (o + 276)), (2, vr (o + 247)), (1, vr o), (0, vr (b : Int))] [vi bb]
  have hthr2 : M2 (o + 247) 0 = kc := hthr.trans hkc.symm
  have hb2 : kc = 0 → bb = vv := fun q => (hb (hkc.symm.trans q)).trans hvv.symm
  have hval2 : kc = 0 → M2 (o + 276) 0 = vv ∧ rL vv := fun q => ⟨(congrFun (f2 (o + 276) (by omega)) _).trans (hval q).1, (hval q).2⟩
  refine go_istore (lv' := [(6, vi bb), (5, vi kc), (4, vi i), (3, vr (o + 276)), (2, vr (o + 247)), (1, vr o), (0, vr (b : Int))]) X d_Law_law_681 (by decide) rfl ?_
  refine go_aload_n X d_Law_law_683 rfl rfl ?_
  refine go_cVf (st2 := [vi kc]) (r := []) X k_Law_80 (m_thrown l D hmd.1 hthr2) hmk0.1 rfl rfl (by omega) (Nat.le_of_ble_eq_true rfl) d_Law_law_684 (by omega) (by omega) rfl ?_
  refine go_iload X d_Law_law_687 rfl ?_
  refine go_icmp_eq (tgt := 694) X d_Law_law_689 rfl (by omega) (by omega) (fun _ => ?_) (fun h9 => absurd (show kc = kc by omega) h9)
  refine go_iload X d_Law_law_694 rfl ?_
  refine go_if_ne (tgt := 711) X d_Law_law_696 rfl (by omega) (fun hq1 => ?_) (fun hq1 => ?_)
  · skip
    refine go_goto (tgt := 1224) X d_Law_law_711 rfl ?_
    refine go_lv (lv' := [(4, vi i), (3, vr (o + 276)), (2, vr (o + 247)), (1, vr o), (0, vr (b : Int))]) X [2, 3, 4, 5, 6] rfl ?_
    exact kont _ _ M2 _ (by omega) (by omega)
  · skip
    obtain ⟨hv1, hv2⟩ := hval2 hq1
    have hb3 := hb2 hq1
    refine go_aload_n X d_Law_law_699 rfl rfl ?_
    refine go_iconst (v := 0) X d_Law_law_700 ?_
    refine go_lald X hq (by omega) (by omega) d_Law_law_701 ?_
    refine go_top (v' := vl vv) X (by rw [hv1]) ?_
    refine go_iload X d_Law_law_702 rfl ?_
    refine go_i2l X d_Law_law_704 (by omega) ?_
    refine go_lcmp X (by omega) (by omega) d_Law_law_705 ?_
    refine go_top (v' := vi 0) X (by rw [show vv = bb by omega, s_cmp_self]) ?_
    refine go_if_eq (tgt := 711) X d_Law_law_706 rfl (by omega) (fun _ => ?_) (fun h9 => absurd h9 (by decide))
    refine go_goto (tgt := 1224) X d_Law_law_711 rfl ?_
    refine go_lv (lv' := [(4, vi i), (3, vr (o + 276)), (2, vr (o + 247)), (1, vr o), (0, vr (b : Int))]) X [2, 3, 4, 5, 6] rfl ?_
    exact kont _ _ M2 _ (by omega) (by omega)
set_option maxHeartbeats 4000000 in
set_option maxRecDepth 100000 in
theorem lw_clear {l : Launch} (hl : l.stackTraces = false) {D : va_G} {nm : String} {d mc ms : Nat} {sh0 : s_S} {sz0 : Int} {Po : s_Po} {g : g_X} {k n : Nat} (X : Cx l D code "CiteForgeLaw" nm 8 ret d mc ms sh0 sz0 Po g) (YY : y_C sh0 sz0 [] g) (hd0 : 20 ≤ d) (hk0 : k + 1 ≤ mc) (hn0 : n + 6 ≤ ms) {sh : s_S} {M : s_M} {o i : Int} {b N : Nat} {xs : Nat → Int32} (Z : z_C b N xs g) (hcf : cf0 sh M o) (hmk0 : mks sh M (o + 247) mL) (hq : sh (o + 276) = some (.inr (.long, 1))) (hi : 0 ≤ i ∧ i + 5 ≤ N) (hN : N ≤ 100000) (kont : ∀ (k' n' : Nat) (M' : s_M) (sz' : Int), k' ≤ k + 1 → n' ≤ n + 6 → Go g k' n' sh M' sz' 1224 [(4, vi i), (3, vr (o + 276)), (2, vr (o + 247)), (1, vr o), (0, vr (b : Int))] []) : Go g k n sh M (o + 277) 714 [(4, vi i), (3, vr (o + 276)), (2, vr (o + 247)), (1, vr o), (0, vr (b : Int))] [] := by
  have hSr := scr_rng xs
  refine go_aload_n X d_Law_law_714 rfl rfl ?_
  refine go_aload_n X d_Law_law_715 rfl rfl ?_
  refine go_iload X d_Law_law_716 rfl ?_
  refine go_iconst (v := 1) X d_Law_law_718 ?_
  refine go_iadd X d_Law_law_719 ?_
  refine go_scr X Z (by omega) (by omega) d_Law_law_720 ?_
  refine go_aload_n X d_Law_law_721 rfl rfl ?_
  refine go_callSW (r := []) (np := 3) X YY lw_clear_c lw_ini (by decide +kernel) lw_clear_l lw_clear_s (h_clear l hl D hcf.1 hcf.2.2.2.2.2.2.2.2 (hSr _) (fun _ _ _ => by decide) hq (by omega)) rfl rfl (by omega) (by decide) (by omega) (by omega) (Nat.le_of_ble_eq_true rfl) d_Law_law_722 (fun v' sh' M1 sz1 hp => ?_)
  obtain ⟨kc, vv, hkc, hvv, hkr, e1, e2, hval, hsz, f1⟩ := hp
  subst e1
  rw [e2]
  show Go g (k + 1) (n + 6) sh M1 sz1 725 [(4, vi i), (3, vr (o + 276)), (2, vr (o + 247)), (1, vr o), (0, vr (b : Int))] [vi kc]
  have hmk := hmk0.mv (sh' := sh) (M' := M1) (fun z h1 h2 => ⟨rfl, f1 z (by show ¬ ((o + 1 ≤ z ∧ z ≤ o + 246) ∨ z = o + 276); omega)⟩)
  refine go_istore (lv' := [(5, vi kc), (4, vi i), (3, vr (o + 276)), (2, vr (o + 247)), (1, vr o), (0, vr (b : Int))]) X d_Law_law_725 (by decide) rfl ?_
  refine go_aload_n X d_Law_law_727 rfl rfl ?_
  refine go_aload_n X d_Law_law_728 rfl rfl ?_
  refine go_iload X d_Law_law_729 rfl ?_
  refine go_iconst (v := 1) X d_Law_law_731 ?_
  refine go_iadd X d_Law_law_732 ?_
  refine go_scr X Z (by omega) (by omega) d_Law_law_733 ?_
  refine go_cV (st2 := []) (r := []) X k_Law_122 (m_clear l D hmk.mds (hSr _) (fun _ _ _ => by decide) ((hmk.2.2.1 11 _ rfl).2.2.1)) hmk.1 rfl rfl (by omega) (Nat.le_of_ble_eq_true rfl) d_Law_law_734 (by omega) (by omega) (fun v' sh' M2 sz2 hp => ?_)
  obtain ⟨bb, e4, hb, hbr, e5, e6, hthr, hmd, f2⟩ := hp
  subst e4
  rw [e5, e6]
  show Go g (k + 1) (n + 6) sh M2 (sz1) 737 [(5, vi kc), (4, vi i), (3, vr (o + 276)), (2, vr (o + 247)), (1, vr o), (0, vr (b : Int))] [vi bb]
  have hthr2 : M2 (o + 247) 0 = kc := hthr.trans hkc.symm
  have hb2 : kc = 0 → bb = vv := fun q => (hb (hkc.symm.trans q)).trans hvv.symm
  have hval2 : kc = 0 → M2 (o + 276) 0 = vv ∧ rL vv := fun q => ⟨(congrFun (f2 (o + 276) (by omega)) _).trans (hval q).1, (hval q).2⟩
  refine go_istore (lv' := [(6, vi bb), (5, vi kc), (4, vi i), (3, vr (o + 276)), (2, vr (o + 247)), (1, vr o), (0, vr (b : Int))]) X d_Law_law_737 (by decide) rfl ?_
  refine go_aload_n X d_Law_law_739 rfl rfl ?_
  refine go_cVf (st2 := [vi kc]) (r := []) X k_Law_80 (m_thrown l D hmd.1 hthr2) hmk0.1 rfl rfl (by omega) (Nat.le_of_ble_eq_true rfl) d_Law_law_740 (by omega) (by omega) rfl ?_
  refine go_iload X d_Law_law_743 rfl ?_
  refine go_icmp_eq (tgt := 750) X d_Law_law_745 rfl (by omega) (by omega) (fun _ => ?_) (fun h9 => absurd (show kc = kc by omega) h9)
  refine go_iload X d_Law_law_750 rfl ?_
  refine go_if_ne (tgt := 767) X d_Law_law_752 rfl (by omega) (fun hq1 => ?_) (fun hq1 => ?_)
  · skip
    refine go_goto (tgt := 1224) X d_Law_law_767 rfl ?_
    refine go_lv (lv' := [(4, vi i), (3, vr (o + 276)), (2, vr (o + 247)), (1, vr o), (0, vr (b : Int))]) X [2, 3, 4, 5, 6] rfl ?_
    exact kont _ _ M2 _ (by omega) (by omega)
  · skip
    obtain ⟨hv1, hv2⟩ := hval2 hq1
    have hb3 := hb2 hq1
    refine go_aload_n X d_Law_law_755 rfl rfl ?_
    refine go_iconst (v := 0) X d_Law_law_756 ?_
    refine go_lald X hq (by omega) (by omega) d_Law_law_757 ?_
    refine go_top (v' := vl vv) X (by rw [hv1]) ?_
    refine go_iload X d_Law_law_758 rfl ?_
    refine go_i2l X d_Law_law_760 (by omega) ?_
    refine go_lcmp X (by omega) (by omega) d_Law_law_761 ?_
    refine go_top (v' := vi 0) X (by rw [show vv = bb by omega, s_cmp_self]) ?_
    refine go_if_eq (tgt := 767) X d_Law_law_762 rfl (by omega) (fun _ => ?_) (fun h9 => absurd h9 (by decide))
    refine go_goto (tgt := 1224) X d_Law_law_767 rfl ?_
    refine go_lv (lv' := [(4, vi i), (3, vr (o + 276)), (2, vr (o + 247)), (1, vr o), (0, vr (b : Int))]) X [2, 3, 4, 5, 6] rfl ?_
    exact kont _ _ M2 _ (by omega) (by omega)
set_option maxHeartbeats 4000000 in
set_option maxRecDepth 100000 in
theorem lw_run {l : Launch} (hl : l.stackTraces = false) {D : va_G} {nm : String} {d mc ms : Nat} {sh0 : s_S} {sz0 : Int} {Po : s_Po} {g : g_X} {k n : Nat} (X : Cx l D code "CiteForgeLaw" nm 8 ret d mc ms sh0 sz0 Po g) (YY : y_C sh0 sz0 [] g) (hd0 : 20 ≤ d) (hk0 : k + 1 ≤ mc) (hn0 : n + 6 ≤ ms) {sh : s_S} {M : s_M} {o i : Int} {b N : Nat} {xs : Nat → Int32} (Z : z_C b N xs g) (hcf : cf0 sh M o) (hmk0 : mks sh M (o + 247) mL) (hq : sh (o + 276) = some (.inr (.long, 1))) (hi : 0 ≤ i ∧ i + 5 ≤ N) (hN : N ≤ 100000) (kont : ∀ (k' n' : Nat) (M' : s_M) (sz' : Int), k' ≤ k + 1 → n' ≤ n + 6 → Go g k' n' sh M' sz' 1224 [(4, vi i), (3, vr (o + 276)), (2, vr (o + 247)), (1, vr o), (0, vr (b : Int))] []) : Go g k n sh M (o + 277) 770 [(4, vi i), (3, vr (o + 276)), (2, vr (o + 247)), (1, vr o), (0, vr (b : Int))] [] := by
  have hSr := scr_rng xs
  refine go_aload_n X d_Law_law_770 rfl rfl ?_
  refine go_aload_n X d_Law_law_771 rfl rfl ?_
  refine go_iload X d_Law_law_772 rfl ?_
  refine go_iconst (v := 1) X d_Law_law_774 ?_
  refine go_iadd X d_Law_law_775 ?_
  refine go_scr X Z (by omega) (by omega) d_Law_law_776 ?_
  refine go_aload_n X d_Law_law_777 rfl rfl ?_
  refine go_iload X d_Law_law_778 rfl ?_
  refine go_iconst (v := 2) X d_Law_law_780 ?_
  refine go_iadd X d_Law_law_781 ?_
  refine go_scr X Z (by omega) (by omega) d_Law_law_782 ?_
  refine go_aload_n X d_Law_law_783 rfl rfl ?_
  refine go_callSW (r := []) (np := 4) X YY lw_run_c lw_ini (by decide +kernel) lw_run_l lw_run_s (h_run l hl D hcf.1 hcf.2.2.2.2.2.1 hcf.2.2.2.2.2.2.2.2 (hSr _) (hSr _) rfl (fun _ => rfl) hq (by omega)) rfl rfl (by omega) (by decide) (by omega) (by omega) (Nat.le_of_ble_eq_true rfl) d_Law_law_784 (fun v' sh' M1 sz1 hp => ?_)
  obtain ⟨kc, vv, hkc, hvv, hkr, e1, e2, hval, hsz, f1⟩ := hp
  subst e1
  rw [e2]
  show Go g (k + 1) (n + 6) sh M1 sz1 787 [(4, vi i), (3, vr (o + 276)), (2, vr (o + 247)), (1, vr o), (0, vr (b : Int))] [vi kc]
  have hmk := hmk0.mv (sh' := sh) (M' := M1) (fun z h1 h2 => ⟨rfl, f1 z (by show ¬ ((o + 1 ≤ z ∧ z ≤ o + 246) ∨ z = o + 276); omega)⟩)
  refine go_istore (lv' := [(5, vi kc), (4, vi i), (3, vr (o + 276)), (2, vr (o + 247)), (1, vr o), (0, vr (b : Int))]) X d_Law_law_787 (by decide) rfl ?_
  refine go_aload_n X d_Law_law_789 rfl rfl ?_
  refine go_aload_n X d_Law_law_790 rfl rfl ?_
  refine go_iload X d_Law_law_791 rfl ?_
  refine go_iconst (v := 1) X d_Law_law_793 ?_
  refine go_iadd X d_Law_law_794 ?_
  refine go_scr X Z (by omega) (by omega) d_Law_law_795 ?_
  refine go_aload_n X d_Law_law_796 rfl rfl ?_
  refine go_iload X d_Law_law_797 rfl ?_
  refine go_iconst (v := 2) X d_Law_law_799 ?_
  refine go_iadd X d_Law_law_800 ?_
  refine go_scr X Z (by omega) (by omega) d_Law_law_801 ?_
  refine go_cV (st2 := []) (r := []) X k_Law_126 (m_run0 l D hmk.mds (hSr _) (hSr _) (Z := fun _ => 0) (fun _ => rfl) (hmk.zero (f := 15) (by decide) (by decide)) ((hmk.2.2.1 11 _ rfl).2.2.1)) hmk.1 rfl rfl (by omega) (Nat.le_of_ble_eq_true rfl) d_Law_law_802 (by omega) (by omega) (fun v' sh' M2 sz2 hp => ?_)
  obtain ⟨bb, e4, hb, hbr, e5, e6, hthr, hmd, f2⟩ := hp
  subst e4
  rw [e5, e6]
  show Go g (k + 1) (n + 6) sh M2 (sz1) 805 [(5, vi kc), (4, vi i), (3, vr (o + 276)), (2, vr (o + 247)), (1, vr o), (0, vr (b : Int))] [vi bb]
  have hthr2 : M2 (o + 247) 0 = kc := hthr.trans hkc.symm
  have hb2 : kc = 0 → bb = vv := fun q => (hb (hkc.symm.trans q)).trans hvv.symm
  have hval2 : kc = 0 → M2 (o + 276) 0 = vv ∧ rL vv := fun q => ⟨(congrFun (f2 (o + 276) (by omega)) _).trans (hval q).1, (hval q).2⟩
  refine go_istore (lv' := [(6, vi bb), (5, vi kc), (4, vi i), (3, vr (o + 276)), (2, vr (o + 247)), (1, vr o), (0, vr (b : Int))]) X d_Law_law_805 (by decide) rfl ?_
  refine go_aload_n X d_Law_law_807 rfl rfl ?_
  refine go_cVf (st2 := [vi kc]) (r := []) X k_Law_80 (m_thrown l D hmd.1 hthr2) hmk0.1 rfl rfl (by omega) (Nat.le_of_ble_eq_true rfl) d_Law_law_808 (by omega) (by omega) rfl ?_
  refine go_iload X d_Law_law_811 rfl ?_
  refine go_icmp_eq (tgt := 818) X d_Law_law_813 rfl (by omega) (by omega) (fun _ => ?_) (fun h9 => absurd (show kc = kc by omega) h9)
  refine go_iload X d_Law_law_818 rfl ?_
  refine go_if_ne (tgt := 835) X d_Law_law_820 rfl (by omega) (fun hq1 => ?_) (fun hq1 => ?_)
  · skip
    refine go_goto (tgt := 1224) X d_Law_law_835 rfl ?_
    refine go_lv (lv' := [(4, vi i), (3, vr (o + 276)), (2, vr (o + 247)), (1, vr o), (0, vr (b : Int))]) X [2, 3, 4, 5, 6] rfl ?_
    exact kont _ _ M2 _ (by omega) (by omega)
  · skip
    obtain ⟨hv1, hv2⟩ := hval2 hq1
    have hb3 := hb2 hq1
    refine go_aload_n X d_Law_law_823 rfl rfl ?_
    refine go_iconst (v := 0) X d_Law_law_824 ?_
    refine go_lald X hq (by omega) (by omega) d_Law_law_825 ?_
    refine go_top (v' := vl vv) X (by rw [hv1]) ?_
    refine go_iload X d_Law_law_826 rfl ?_
    refine go_i2l X d_Law_law_828 (by omega) ?_
    refine go_lcmp X (by omega) (by omega) d_Law_law_829 ?_
    refine go_top (v' := vi 0) X (by rw [show vv = bb by omega, s_cmp_self]) ?_
    refine go_if_eq (tgt := 835) X d_Law_law_830 rfl (by omega) (fun _ => ?_) (fun h9 => absurd h9 (by decide))
    refine go_goto (tgt := 1224) X d_Law_law_835 rfl ?_
    refine go_lv (lv' := [(4, vi i), (3, vr (o + 276)), (2, vr (o + 247)), (1, vr o), (0, vr (b : Int))]) X [2, 3, 4, 5, 6] rfl ?_
    exact kont _ _ M2 _ (by omega) (by omega)
set_option maxHeartbeats 4000000 in
set_option maxRecDepth 100000 in
theorem lw_depth {l : Launch} (hl : l.stackTraces = false) {D : va_G} {nm : String} {d mc ms : Nat} {sh0 : s_S} {sz0 : Int} {Po : s_Po} {g : g_X} {k n : Nat} (X : Cx l D code "CiteForgeLaw" nm 8 ret d mc ms sh0 sz0 Po g) (YY : y_C sh0 sz0 [] g) (hd0 : 20 ≤ d) (hk0 : k + 1 ≤ mc) (hn0 : n + 6 ≤ ms) {sh : s_S} {M : s_M} {o i : Int} {b N : Nat} {xs : Nat → Int32} (Z : z_C b N xs g) (hcf : cf0 sh M o) (hmk0 : mks sh M (o + 247) mL) (hq : sh (o + 276) = some (.inr (.long, 1))) (hi : 0 ≤ i ∧ i + 5 ≤ N) (hN : N ≤ 100000) (kont : ∀ (k' n' : Nat) (M' : s_M) (sz' : Int), k' ≤ k + 1 → n' ≤ n + 6 → Go g k' n' sh M' sz' 1224 [(4, vi i), (3, vr (o + 276)), (2, vr (o + 247)), (1, vr o), (0, vr (b : Int))] []) : Go g k n sh M (o + 277) 838 [(4, vi i), (3, vr (o + 276)), (2, vr (o + 247)), (1, vr o), (0, vr (b : Int))] [] := by
  have hSr := scr_rng xs
  refine go_aload_n X d_Law_law_838 rfl rfl ?_
  refine go_cV (st2 := []) (r := []) X k_Law_127 (f_depth l D hcf.1 hcf.2.2.2.2.2.2.1 hcf.2.1 hcf.2.2.1 ) hcf.1.1 rfl rfl (by omega) (Nat.le_of_ble_eq_true rfl) d_Law_law_839 (by omega) (by omega) (fun v' sh' M1 sz1 hp => ?_)
  obtain ⟨e1, e2, e3, f1⟩ := hp
  subst e1
  rw [e2, e3]
  show Go g k n sh M1 (o + 277) 842 [(4, vi i), (3, vr (o + 276)), (2, vr (o + 247)), (1, vr o), (0, vr (b : Int))] [vi 0]
  have hmk := hmk0.mv (sh' := sh) (M' := M1) (fun z h1 h2 => ⟨rfl, f1 z (by show ¬ (o + 1 ≤ z ∧ z ≤ o + 246); omega)⟩)
  refine go_aload_n X d_Law_law_842 rfl rfl ?_
  refine go_cV (st2 := []) (r := [vi 0]) X k_Law_130 (m_depth l D hmk.mds (by decide) (hmk.zero (f := 26) (by decide) (by decide))) hmk.1 rfl rfl (by omega) (Nat.le_of_ble_eq_true rfl) d_Law_law_843 (by omega) (by omega) (fun v' sh' M2 sz2 hp => ?_)
  obtain ⟨bb, e4, hb, hbr, e5, e6, hthr, hmd, f2⟩ := hp
  subst e4
  rw [e5, e6]
  show Go g k n sh M2 (o + 277) 846 [(4, vi i), (3, vr (o + 276)), (2, vr (o + 247)), (1, vr o), (0, vr (b : Int))] [vi bb, vi 0]
  have hb1 := hb rfl
  refine go_icmp_eq (tgt := 1224) X d_Law_law_846 rfl (by omega) (by omega) (fun _ => ?_) (fun h9 => absurd (show 0 = bb by omega) h9)
  refine go_lv (lv' := [(4, vi i), (3, vr (o + 276)), (2, vr (o + 247)), (1, vr o), (0, vr (b : Int))]) X [0, 1, 2, 3, 4] rfl ?_
  exact kont _ _ M2 _ (by omega) (by omega)
set_option maxHeartbeats 4000000 in
set_option maxRecDepth 100000 in
theorem lw_kind {l : Launch} (hl : l.stackTraces = false) {D : va_G} {nm : String} {d mc ms : Nat} {sh0 : s_S} {sz0 : Int} {Po : s_Po} {g : g_X} {k n : Nat} (X : Cx l D code "CiteForgeLaw" nm 8 ret d mc ms sh0 sz0 Po g) (YY : y_C sh0 sz0 [] g) (hd0 : 20 ≤ d) (hk0 : k + 1 ≤ mc) (hn0 : n + 6 ≤ ms) {sh : s_S} {M : s_M} {o i : Int} {b N : Nat} {xs : Nat → Int32} (Z : z_C b N xs g) (hcf : cf0 sh M o) (hmk0 : mks sh M (o + 247) mL) (hq : sh (o + 276) = some (.inr (.long, 1))) (hi : 0 ≤ i ∧ i + 5 ≤ N) (hN : N ≤ 100000) (kont : ∀ (k' n' : Nat) (M' : s_M) (sz' : Int), k' ≤ k + 1 → n' ≤ n + 6 → Go g k' n' sh M' sz' 1224 [(4, vi i), (3, vr (o + 276)), (2, vr (o + 247)), (1, vr o), (0, vr (b : Int))] []) : Go g k n sh M (o + 277) 851 [(4, vi i), (3, vr (o + 276)), (2, vr (o + 247)), (1, vr o), (0, vr (b : Int))] [] := by
  have hSr := scr_rng xs
  refine go_aload_n X d_Law_law_851 rfl rfl ?_
  refine go_aload_n X d_Law_law_852 rfl rfl ?_
  refine go_iload X d_Law_law_853 rfl ?_
  refine go_iconst (v := 1) X d_Law_law_855 ?_
  refine go_iadd X d_Law_law_856 ?_
  refine go_scr X Z (by omega) (by omega) d_Law_law_857 ?_
  refine go_aload_n X d_Law_law_858 rfl rfl ?_
  refine go_callSW (r := []) (np := 3) X YY lw_kind_c lw_ini (by decide +kernel) lw_kind_l lw_kind_s (h_kind l hl D hcf.1 hcf.2.2.2.2.2.2.1 hcf.2.1 hcf.2.2.1 (hSr _) rfl hq (by omega)) rfl rfl (by omega) (by decide) (by omega) (by omega) (Nat.le_of_ble_eq_true rfl) d_Law_law_859 (fun v' sh' M1 sz1 hp => ?_)
  obtain ⟨kc, vv, hkc, hvv, hkr, e1, e2, hval, hsz, f1⟩ := hp
  subst e1
  rw [e2]
  show Go g (k + 1) (n + 6) sh M1 sz1 862 [(4, vi i), (3, vr (o + 276)), (2, vr (o + 247)), (1, vr o), (0, vr (b : Int))] [vi kc]
  have hmk := hmk0.mv (sh' := sh) (M' := M1) (fun z h1 h2 => ⟨rfl, f1 z (by show ¬ ((o + 1 ≤ z ∧ z ≤ o + 246) ∨ z = o + 276); omega)⟩)
  refine go_istore (lv' := [(5, vi kc), (4, vi i), (3, vr (o + 276)), (2, vr (o + 247)), (1, vr o), (0, vr (b : Int))]) X d_Law_law_862 (by decide) rfl ?_
  refine go_aload_n X d_Law_law_864 rfl rfl ?_
  refine go_aload_n X d_Law_law_865 rfl rfl ?_
  refine go_iload X d_Law_law_866 rfl ?_
  refine go_iconst (v := 1) X d_Law_law_868 ?_
  refine go_iadd X d_Law_law_869 ?_
  refine go_scr X Z (by omega) (by omega) d_Law_law_870 ?_
  refine go_cV (st2 := []) (r := []) X k_Law_133 (m_kind0 l D hmk.mds (hSr _) (hmk.zero (f := 26) (by decide) (by decide))) hmk.1 rfl rfl (by omega) (Nat.le_of_ble_eq_true rfl) d_Law_law_871 (by omega) (by omega) (fun v' sh' M2 sz2 hp => ?_)
  obtain ⟨bb, e4, hb, hbr, e5, e6, hthr, hmd, f2⟩ := hp
  subst e4
  rw [e5, e6]
  show Go g (k + 1) (n + 6) sh M2 (sz1) 874 [(5, vi kc), (4, vi i), (3, vr (o + 276)), (2, vr (o + 247)), (1, vr o), (0, vr (b : Int))] [vi bb]
  have hthr2 : M2 (o + 247) 0 = kc := hthr.trans hkc.symm
  have hb2 : kc = 0 → bb = vv := fun q => (hb (hkc.symm.trans q)).trans hvv.symm
  have hval2 : kc = 0 → M2 (o + 276) 0 = vv ∧ rL vv := fun q => ⟨(congrFun (f2 (o + 276) (by omega)) _).trans (hval q).1, (hval q).2⟩
  refine go_istore (lv' := [(6, vi bb), (5, vi kc), (4, vi i), (3, vr (o + 276)), (2, vr (o + 247)), (1, vr o), (0, vr (b : Int))]) X d_Law_law_874 (by decide) rfl ?_
  refine go_aload_n X d_Law_law_876 rfl rfl ?_
  refine go_cVf (st2 := [vi kc]) (r := []) X k_Law_80 (m_thrown l D hmd.1 hthr2) hmk0.1 rfl rfl (by omega) (Nat.le_of_ble_eq_true rfl) d_Law_law_877 (by omega) (by omega) rfl ?_
  refine go_iload X d_Law_law_880 rfl ?_
  refine go_icmp_eq (tgt := 887) X d_Law_law_882 rfl (by omega) (by omega) (fun _ => ?_) (fun h9 => absurd (show kc = kc by omega) h9)
  refine go_iload X d_Law_law_887 rfl ?_
  refine go_if_ne (tgt := 904) X d_Law_law_889 rfl (by omega) (fun hq1 => ?_) (fun hq1 => ?_)
  · skip
    refine go_goto (tgt := 1224) X d_Law_law_904 rfl ?_
    refine go_lv (lv' := [(4, vi i), (3, vr (o + 276)), (2, vr (o + 247)), (1, vr o), (0, vr (b : Int))]) X [2, 3, 4, 5, 6] rfl ?_
    exact kont _ _ M2 _ (by omega) (by omega)
  · skip
    obtain ⟨hv1, hv2⟩ := hval2 hq1
    have hb3 := hb2 hq1
    refine go_aload_n X d_Law_law_892 rfl rfl ?_
    refine go_iconst (v := 0) X d_Law_law_893 ?_
    refine go_lald X hq (by omega) (by omega) d_Law_law_894 ?_
    refine go_top (v' := vl vv) X (by rw [hv1]) ?_
    refine go_iload X d_Law_law_895 rfl ?_
    refine go_i2l X d_Law_law_897 (by omega) ?_
    refine go_lcmp X (by omega) (by omega) d_Law_law_898 ?_
    refine go_top (v' := vi 0) X (by rw [show vv = bb by omega, s_cmp_self]) ?_
    refine go_if_eq (tgt := 904) X d_Law_law_899 rfl (by omega) (fun _ => ?_) (fun h9 => absurd h9 (by decide))
    refine go_goto (tgt := 1224) X d_Law_law_904 rfl ?_
    refine go_lv (lv' := [(4, vi i), (3, vr (o + 276)), (2, vr (o + 247)), (1, vr o), (0, vr (b : Int))]) X [2, 3, 4, 5, 6] rfl ?_
    exact kont _ _ M2 _ (by omega) (by omega)
set_option maxHeartbeats 4000000 in
set_option maxRecDepth 100000 in
theorem lw_value {l : Launch} (hl : l.stackTraces = false) {D : va_G} {nm : String} {d mc ms : Nat} {sh0 : s_S} {sz0 : Int} {Po : s_Po} {g : g_X} {k n : Nat} (X : Cx l D code "CiteForgeLaw" nm 8 ret d mc ms sh0 sz0 Po g) (YY : y_C sh0 sz0 [] g) (hd0 : 20 ≤ d) (hk0 : k + 1 ≤ mc) (hn0 : n + 6 ≤ ms) {sh : s_S} {M : s_M} {o i : Int} {b N : Nat} {xs : Nat → Int32} (Z : z_C b N xs g) (hcf : cf0 sh M o) (hmk0 : mks sh M (o + 247) mL) (hq : sh (o + 276) = some (.inr (.long, 1))) (hi : 0 ≤ i ∧ i + 5 ≤ N) (hN : N ≤ 100000) (kont : ∀ (k' n' : Nat) (M' : s_M) (sz' : Int), k' ≤ k + 1 → n' ≤ n + 6 → Go g k' n' sh M' sz' 1224 [(4, vi i), (3, vr (o + 276)), (2, vr (o + 247)), (1, vr o), (0, vr (b : Int))] []) : Go g k n sh M (o + 277) 907 [(4, vi i), (3, vr (o + 276)), (2, vr (o + 247)), (1, vr o), (0, vr (b : Int))] [] := by
  have hSr := scr_rng xs
  refine go_aload_n X d_Law_law_907 rfl rfl ?_
  refine go_aload_n X d_Law_law_908 rfl rfl ?_
  refine go_iload X d_Law_law_909 rfl ?_
  refine go_iconst (v := 1) X d_Law_law_911 ?_
  refine go_iadd X d_Law_law_912 ?_
  refine go_scr X Z (by omega) (by omega) d_Law_law_913 ?_
  refine go_aload_n X d_Law_law_914 rfl rfl ?_
  refine go_callSW (r := []) (np := 3) X YY lw_value_c lw_ini (by decide +kernel) lw_value_l lw_value_s (h_value l hl D hcf.1 hcf.2.2.2.2.2.2.1 hcf.2.1 hcf.2.2.1 (hSr _) rfl hq (by omega)) rfl rfl (by omega) (by decide) (by omega) (by omega) (Nat.le_of_ble_eq_true rfl) d_Law_law_915 (fun v' sh' M1 sz1 hp => ?_)
  obtain ⟨kc, vv, hkc, hvv, hkr, e1, e2, hval, hsz, f1⟩ := hp
  subst e1
  rw [e2]
  show Go g (k + 1) (n + 6) sh M1 sz1 918 [(4, vi i), (3, vr (o + 276)), (2, vr (o + 247)), (1, vr o), (0, vr (b : Int))] [vi kc]
  have hmk := hmk0.mv (sh' := sh) (M' := M1) (fun z h1 h2 => ⟨rfl, f1 z (by show ¬ ((o + 1 ≤ z ∧ z ≤ o + 246) ∨ z = o + 276); omega)⟩)
  refine go_istore (lv' := [(5, vi kc), (4, vi i), (3, vr (o + 276)), (2, vr (o + 247)), (1, vr o), (0, vr (b : Int))]) X d_Law_law_918 (by decide) rfl ?_
  refine go_aload_n X d_Law_law_920 rfl rfl ?_
  refine go_aload_n X d_Law_law_921 rfl rfl ?_
  refine go_iload X d_Law_law_922 rfl ?_
  refine go_iconst (v := 1) X d_Law_law_924 ?_
  refine go_iadd X d_Law_law_925 ?_
  refine go_scr X Z (by omega) (by omega) d_Law_law_926 ?_
  refine go_cV (st2 := []) (r := []) X k_Law_136 (m_value0 l D hmk.mds (hSr _) (hmk.zero (f := 26) (by decide) (by decide))) hmk.1 rfl rfl (by omega) (Nat.le_of_ble_eq_true rfl) d_Law_law_927 (by omega) (by omega) (fun v' sh' M2 sz2 hp => ?_)
  obtain ⟨bb, e4, hb, hbr, e5, e6, hthr, hmd, f2⟩ := hp
  subst e4
  rw [e5, e6]
  show Go g (k + 1) (n + 6) sh M2 (sz1) 930 [(5, vi kc), (4, vi i), (3, vr (o + 276)), (2, vr (o + 247)), (1, vr o), (0, vr (b : Int))] [vi bb]
  have hthr2 : M2 (o + 247) 0 = kc := hthr.trans hkc.symm
  have hb2 : kc = 0 → bb = vv := fun q => (hb (hkc.symm.trans q)).trans hvv.symm
  have hval2 : kc = 0 → M2 (o + 276) 0 = vv ∧ rL vv := fun q => ⟨(congrFun (f2 (o + 276) (by omega)) _).trans (hval q).1, (hval q).2⟩
  refine go_istore (lv' := [(6, vi bb), (5, vi kc), (4, vi i), (3, vr (o + 276)), (2, vr (o + 247)), (1, vr o), (0, vr (b : Int))]) X d_Law_law_930 (by decide) rfl ?_
  refine go_aload_n X d_Law_law_932 rfl rfl ?_
  refine go_cVf (st2 := [vi kc]) (r := []) X k_Law_80 (m_thrown l D hmd.1 hthr2) hmk0.1 rfl rfl (by omega) (Nat.le_of_ble_eq_true rfl) d_Law_law_933 (by omega) (by omega) rfl ?_
  refine go_iload X d_Law_law_936 rfl ?_
  refine go_icmp_eq (tgt := 943) X d_Law_law_938 rfl (by omega) (by omega) (fun _ => ?_) (fun h9 => absurd (show kc = kc by omega) h9)
  refine go_iload X d_Law_law_943 rfl ?_
  refine go_if_ne (tgt := 960) X d_Law_law_945 rfl (by omega) (fun hq1 => ?_) (fun hq1 => ?_)
  · skip
    refine go_goto (tgt := 1224) X d_Law_law_960 rfl ?_
    refine go_lv (lv' := [(4, vi i), (3, vr (o + 276)), (2, vr (o + 247)), (1, vr o), (0, vr (b : Int))]) X [2, 3, 4, 5, 6] rfl ?_
    exact kont _ _ M2 _ (by omega) (by omega)
  · skip
    obtain ⟨hv1, hv2⟩ := hval2 hq1
    have hb3 := hb2 hq1
    refine go_aload_n X d_Law_law_948 rfl rfl ?_
    refine go_iconst (v := 0) X d_Law_law_949 ?_
    refine go_lald X hq (by omega) (by omega) d_Law_law_950 ?_
    refine go_top (v' := vl vv) X (by rw [hv1]) ?_
    refine go_iload X d_Law_law_951 rfl ?_
    refine go_i2l X d_Law_law_953 (by omega) ?_
    refine go_lcmp X (by omega) (by omega) d_Law_law_954 ?_
    refine go_top (v' := vi 0) X (by rw [show vv = bb by omega, s_cmp_self]) ?_
    refine go_if_eq (tgt := 960) X d_Law_law_955 rfl (by omega) (fun _ => ?_) (fun h9 => absurd h9 (by decide))
    refine go_goto (tgt := 1224) X d_Law_law_960 rfl ?_
    refine go_lv (lv' := [(4, vi i), (3, vr (o + 276)), (2, vr (o + 247)), (1, vr o), (0, vr (b : Int))]) X [2, 3, 4, 5, 6] rfl ?_
    exact kont _ _ M2 _ (by omega) (by omega)
set_option maxHeartbeats 4000000 in
set_option maxRecDepth 100000 in
theorem lw_letter {l : Launch} (hl : l.stackTraces = false) {D : va_G} {nm : String} {d mc ms : Nat} {sh0 : s_S} {sz0 : Int} {Po : s_Po} {g : g_X} {k n : Nat} (X : Cx l D code "CiteForgeLaw" nm 8 ret d mc ms sh0 sz0 Po g) (YY : y_C sh0 sz0 [] g) (hd0 : 20 ≤ d) (hk0 : k + 1 ≤ mc) (hn0 : n + 6 ≤ ms) {sh : s_S} {M : s_M} {o i : Int} {b N : Nat} {xs : Nat → Int32} (Z : z_C b N xs g) (hcf : cf0 sh M o) (hmk0 : mks sh M (o + 247) mL) (hq : sh (o + 276) = some (.inr (.long, 1))) (hi : 0 ≤ i ∧ i + 5 ≤ N) (hN : N ≤ 100000) (kont : ∀ (k' n' : Nat) (M' : s_M) (sz' : Int), k' ≤ k + 1 → n' ≤ n + 6 → Go g k' n' sh M' sz' 1224 [(4, vi i), (3, vr (o + 276)), (2, vr (o + 247)), (1, vr o), (0, vr (b : Int))] []) : Go g k n sh M (o + 277) 963 [(4, vi i), (3, vr (o + 276)), (2, vr (o + 247)), (1, vr o), (0, vr (b : Int))] [] := by
  have hSr := scr_rng xs
  refine go_aload_n X d_Law_law_963 rfl rfl ?_
  refine go_aload_n X d_Law_law_964 rfl rfl ?_
  refine go_iload X d_Law_law_965 rfl ?_
  refine go_iconst (v := 1) X d_Law_law_967 ?_
  refine go_iadd X d_Law_law_968 ?_
  refine go_scr X Z (by omega) (by omega) d_Law_law_969 ?_
  refine go_aload_n X d_Law_law_970 rfl rfl ?_
  refine go_iload X d_Law_law_971 rfl ?_
  refine go_iconst (v := 2) X d_Law_law_973 ?_
  refine go_iadd X d_Law_law_974 ?_
  refine go_scr X Z (by omega) (by omega) d_Law_law_975 ?_
  refine go_aload_n X d_Law_law_976 rfl rfl ?_
  refine go_callSW (r := []) (np := 4) X YY lw_letter_c lw_ini (by decide +kernel) lw_letter_l lw_letter_s (h_letter l hl D hcf.1 hcf.2.2.2.2.2.2.1 hcf.2.1 hcf.2.2.1 (hSr _) rfl hq (by omega)) rfl rfl (by omega) (by decide) (by omega) (by omega) (Nat.le_of_ble_eq_true rfl) d_Law_law_977 (fun v' sh' M1 sz1 hp => ?_)
  obtain ⟨kc, vv, hkc, hvv, hkr, e1, e2, hval, hsz, f1⟩ := hp
  subst e1
  rw [e2]
  show Go g (k + 1) (n + 6) sh M1 sz1 980 [(4, vi i), (3, vr (o + 276)), (2, vr (o + 247)), (1, vr o), (0, vr (b : Int))] [vi kc]
  have hmk := hmk0.mv (sh' := sh) (M' := M1) (fun z h1 h2 => ⟨rfl, f1 z (by show ¬ ((o + 1 ≤ z ∧ z ≤ o + 246) ∨ z = o + 276); omega)⟩)
  refine go_istore (lv' := [(5, vi kc), (4, vi i), (3, vr (o + 276)), (2, vr (o + 247)), (1, vr o), (0, vr (b : Int))]) X d_Law_law_980 (by decide) rfl ?_
  refine go_aload_n X d_Law_law_982 rfl rfl ?_
  refine go_aload_n X d_Law_law_983 rfl rfl ?_
  refine go_iload X d_Law_law_984 rfl ?_
  refine go_iconst (v := 1) X d_Law_law_986 ?_
  refine go_iadd X d_Law_law_987 ?_
  refine go_scr X Z (by omega) (by omega) d_Law_law_988 ?_
  refine go_aload_n X d_Law_law_989 rfl rfl ?_
  refine go_iload X d_Law_law_990 rfl ?_
  refine go_iconst (v := 2) X d_Law_law_992 ?_
  refine go_iadd X d_Law_law_993 ?_
  refine go_scr X Z (by omega) (by omega) d_Law_law_994 ?_
  refine go_cV (st2 := []) (r := []) X k_Law_139 (m_letter0 l D hmk.mds (hSr _) (hmk.zero (f := 26) (by decide) (by decide))) hmk.1 rfl rfl (by omega) (Nat.le_of_ble_eq_true rfl) d_Law_law_995 (by omega) (by omega) (fun v' sh' M2 sz2 hp => ?_)
  obtain ⟨bb, e4, hb, hbr, e5, e6, hthr, hmd, f2⟩ := hp
  subst e4
  rw [e5, e6]
  show Go g (k + 1) (n + 6) sh M2 (sz1) 998 [(5, vi kc), (4, vi i), (3, vr (o + 276)), (2, vr (o + 247)), (1, vr o), (0, vr (b : Int))] [vi bb]
  have hthr2 : M2 (o + 247) 0 = kc := hthr.trans hkc.symm
  have hb2 : kc = 0 → bb = vv := fun q => (hb (hkc.symm.trans q)).trans hvv.symm
  have hval2 : kc = 0 → M2 (o + 276) 0 = vv ∧ rL vv := fun q => ⟨(congrFun (f2 (o + 276) (by omega)) _).trans (hval q).1, (hval q).2⟩
  refine go_istore (lv' := [(6, vi bb), (5, vi kc), (4, vi i), (3, vr (o + 276)), (2, vr (o + 247)), (1, vr o), (0, vr (b : Int))]) X d_Law_law_998 (by decide) rfl ?_
  refine go_aload_n X d_Law_law_1000 rfl rfl ?_
  refine go_cVf (st2 := [vi kc]) (r := []) X k_Law_80 (m_thrown l D hmd.1 hthr2) hmk0.1 rfl rfl (by omega) (Nat.le_of_ble_eq_true rfl) d_Law_law_1001 (by omega) (by omega) rfl ?_
  refine go_iload X d_Law_law_1004 rfl ?_
  refine go_icmp_eq (tgt := 1011) X d_Law_law_1006 rfl (by omega) (by omega) (fun _ => ?_) (fun h9 => absurd (show kc = kc by omega) h9)
  refine go_iload X d_Law_law_1011 rfl ?_
  refine go_if_ne (tgt := 1028) X d_Law_law_1013 rfl (by omega) (fun hq1 => ?_) (fun hq1 => ?_)
  · skip
    refine go_goto (tgt := 1224) X d_Law_law_1028 rfl ?_
    refine go_lv (lv' := [(4, vi i), (3, vr (o + 276)), (2, vr (o + 247)), (1, vr o), (0, vr (b : Int))]) X [2, 3, 4, 5, 6] rfl ?_
    exact kont _ _ M2 _ (by omega) (by omega)
  · skip
    obtain ⟨hv1, hv2⟩ := hval2 hq1
    have hb3 := hb2 hq1
    refine go_aload_n X d_Law_law_1016 rfl rfl ?_
    refine go_iconst (v := 0) X d_Law_law_1017 ?_
    refine go_lald X hq (by omega) (by omega) d_Law_law_1018 ?_
    refine go_top (v' := vl vv) X (by rw [hv1]) ?_
    refine go_iload X d_Law_law_1019 rfl ?_
    refine go_i2l X d_Law_law_1021 (by omega) ?_
    refine go_lcmp X (by omega) (by omega) d_Law_law_1022 ?_
    refine go_top (v' := vi 0) X (by rw [show vv = bb by omega, s_cmp_self]) ?_
    refine go_if_eq (tgt := 1028) X d_Law_law_1023 rfl (by omega) (fun _ => ?_) (fun h9 => absurd h9 (by decide))
    refine go_goto (tgt := 1224) X d_Law_law_1028 rfl ?_
    refine go_lv (lv' := [(4, vi i), (3, vr (o + 276)), (2, vr (o + 247)), (1, vr o), (0, vr (b : Int))]) X [2, 3, 4, 5, 6] rfl ?_
    exact kont _ _ M2 _ (by omega) (by omega)
set_option maxHeartbeats 4000000 in
set_option maxRecDepth 100000 in
theorem lw_empty {l : Launch} (hl : l.stackTraces = false) {D : va_G} {nm : String} {d mc ms : Nat} {sh0 : s_S} {sz0 : Int} {Po : s_Po} {g : g_X} {k n : Nat} (X : Cx l D code "CiteForgeLaw" nm 8 ret d mc ms sh0 sz0 Po g) (YY : y_C sh0 sz0 [] g) (hd0 : 20 ≤ d) (hk0 : k + 1 ≤ mc) (hn0 : n + 6 ≤ ms) {sh : s_S} {M : s_M} {o i : Int} {b N : Nat} {xs : Nat → Int32} (Z : z_C b N xs g) (hcf : cf0 sh M o) (hmk0 : mks sh M (o + 247) mL) (hq : sh (o + 276) = some (.inr (.long, 1))) (hi : 0 ≤ i ∧ i + 5 ≤ N) (hN : N ≤ 100000) (kont : ∀ (k' n' : Nat) (M' : s_M) (sz' : Int), k' ≤ k + 1 → n' ≤ n + 6 → Go g k' n' sh M' sz' 1224 [(4, vi i), (3, vr (o + 276)), (2, vr (o + 247)), (1, vr o), (0, vr (b : Int))] []) : Go g k n sh M (o + 277) 1031 [(4, vi i), (3, vr (o + 276)), (2, vr (o + 247)), (1, vr o), (0, vr (b : Int))] [] := by
  have hSr := scr_rng xs
  refine go_aload_n X d_Law_law_1031 rfl rfl ?_
  refine go_cV (st2 := []) (r := []) X k_Law_140 (f_empty l D hcf.1 hcf.2.2.2.2.2.2.1 hcf.2.1 hcf.2.2.1 ) hcf.1.1 rfl rfl (by omega) (Nat.le_of_ble_eq_true rfl) d_Law_law_1032 (by omega) (by omega) (fun v' sh' M1 sz1 hp => ?_)
  obtain ⟨e1, e2, e3, _, _, f1⟩ := hp
  subst e1
  rw [e2, e3]
  show Go g k n sh M1 (o + 277) 1035 [(4, vi i), (3, vr (o + 276)), (2, vr (o + 247)), (1, vr o), (0, vr (b : Int))] [vi 0]
  have hmk := hmk0.mv (sh' := sh) (M' := M1) (fun z h1 h2 => ⟨rfl, f1 z (by show ¬ (o + 1 ≤ z ∧ z ≤ o + 246); omega)⟩)
  refine go_aload_n X d_Law_law_1035 rfl rfl ?_
  refine go_cV (st2 := []) (r := [vi 0]) X k_Law_143 (m_empty l D hmk.mds (by decide) (hmk.zero (f := 26) (by decide) (by decide))) hmk.1 rfl rfl (by omega) (Nat.le_of_ble_eq_true rfl) d_Law_law_1036 (by omega) (by omega) (fun v' sh' M2 sz2 hp => ?_)
  obtain ⟨bb, e4, hb, hbr, e5, e6, hthr, hmd, f2⟩ := hp
  subst e4
  rw [e5, e6]
  show Go g k n sh M2 (o + 277) 1039 [(4, vi i), (3, vr (o + 276)), (2, vr (o + 247)), (1, vr o), (0, vr (b : Int))] [vi bb, vi 0]
  have hb1 := hb rfl
  refine go_icmp_eq (tgt := 1224) X d_Law_law_1039 rfl (by omega) (by omega) (fun _ => ?_) (fun h9 => absurd (show 0 = bb by omega) h9)
  refine go_lv (lv' := [(4, vi i), (3, vr (o + 276)), (2, vr (o + 247)), (1, vr o), (0, vr (b : Int))]) X [0, 1, 2, 3, 4] rfl ?_
  exact kont _ _ M2 _ (by omega) (by omega)
set_option maxHeartbeats 4000000 in
set_option maxRecDepth 100000 in
theorem lw_line {l : Launch} (hl : l.stackTraces = false) {D : va_G} {nm : String} {d mc ms : Nat} {sh0 : s_S} {sz0 : Int} {Po : s_Po} {g : g_X} {k n : Nat} (X : Cx l D code "CiteForgeLaw" nm 8 ret d mc ms sh0 sz0 Po g) (YY : y_C sh0 sz0 [] g) (hd0 : 20 ≤ d) (hk0 : k + 1 ≤ mc) (hn0 : n + 6 ≤ ms) {sh : s_S} {M : s_M} {o i : Int} {b N : Nat} {xs : Nat → Int32} (Z : z_C b N xs g) (hcf : cf0 sh M o) (hmk0 : mks sh M (o + 247) mL) (hq : sh (o + 276) = some (.inr (.long, 1))) (hi : 0 ≤ i ∧ i + 5 ≤ N) (hN : N ≤ 100000) (kont : ∀ (k' n' : Nat) (M' : s_M) (sz' : Int), k' ≤ k + 1 → n' ≤ n + 6 → Go g k' n' sh M' sz' 1224 [(4, vi i), (3, vr (o + 276)), (2, vr (o + 247)), (1, vr o), (0, vr (b : Int))] []) : Go g k n sh M (o + 277) 1044 [(4, vi i), (3, vr (o + 276)), (2, vr (o + 247)), (1, vr o), (0, vr (b : Int))] [] := by
  have hSr := scr_rng xs
  refine go_aload_n X d_Law_law_1044 rfl rfl ?_
  refine go_aload_n X d_Law_law_1045 rfl rfl ?_
  refine go_iload X d_Law_law_1046 rfl ?_
  refine go_iconst (v := 1) X d_Law_law_1048 ?_
  refine go_iadd X d_Law_law_1049 ?_
  refine go_scr X Z (by omega) (by omega) d_Law_law_1050 ?_
  refine go_aload_n X d_Law_law_1051 rfl rfl ?_
  refine go_iload X d_Law_law_1052 rfl ?_
  refine go_iconst (v := 2) X d_Law_law_1054 ?_
  refine go_iadd X d_Law_law_1055 ?_
  refine go_scr X Z (by omega) (by omega) d_Law_law_1056 ?_
  refine go_aload_n X d_Law_law_1057 rfl rfl ?_
  refine go_callSW (r := []) (np := 4) X YY lw_line_c lw_ini (by decide +kernel) lw_line_l lw_line_s (h_line l hl D hcf.1 hcf.2.2.2.2.2.2.2.1 (hSr _) rfl hq (by omega)) rfl rfl (by omega) (by decide) (by omega) (by omega) (Nat.le_of_ble_eq_true rfl) d_Law_law_1058 (fun v' sh' M1 sz1 hp => ?_)
  obtain ⟨kc, vv, hkc, hvv, hkr, e1, e2, hval, hsz, f1⟩ := hp
  subst e1
  rw [e2]
  show Go g (k + 1) (n + 6) sh M1 sz1 1061 [(4, vi i), (3, vr (o + 276)), (2, vr (o + 247)), (1, vr o), (0, vr (b : Int))] [vi kc]
  have hmk := hmk0.mv (sh' := sh) (M' := M1) (fun z h1 h2 => ⟨rfl, f1 z (by show ¬ ((o + 1 ≤ z ∧ z ≤ o + 246) ∨ z = o + 276); omega)⟩)
  refine go_istore (lv' := [(5, vi kc), (4, vi i), (3, vr (o + 276)), (2, vr (o + 247)), (1, vr o), (0, vr (b : Int))]) X d_Law_law_1061 (by decide) rfl ?_
  refine go_aload_n X d_Law_law_1063 rfl rfl ?_
  refine go_aload_n X d_Law_law_1064 rfl rfl ?_
  refine go_iload X d_Law_law_1065 rfl ?_
  refine go_iconst (v := 1) X d_Law_law_1067 ?_
  refine go_iadd X d_Law_law_1068 ?_
  refine go_scr X Z (by omega) (by omega) d_Law_law_1069 ?_
  refine go_aload_n X d_Law_law_1070 rfl rfl ?_
  refine go_iload X d_Law_law_1071 rfl ?_
  refine go_iconst (v := 2) X d_Law_law_1073 ?_
  refine go_iadd X d_Law_law_1074 ?_
  refine go_scr X Z (by omega) (by omega) d_Law_law_1075 ?_
  refine go_cV (st2 := []) (r := []) X k_Law_146 (m_line0 l D hmk.mds (hSr _) (hmk.zero (f := 44) (by decide) (by decide))) hmk.1 rfl rfl (by omega) (Nat.le_of_ble_eq_true rfl) d_Law_law_1076 (by omega) (by omega) (fun v' sh' M2 sz2 hp => ?_)
  obtain ⟨bb, e4, hb, hbr, e5, e6, hthr, hmd, f2⟩ := hp
  subst e4
  rw [e5, e6]
  show Go g (k + 1) (n + 6) sh M2 (sz1) 1079 [(5, vi kc), (4, vi i), (3, vr (o + 276)), (2, vr (o + 247)), (1, vr o), (0, vr (b : Int))] [vi bb]
  have hthr2 : M2 (o + 247) 0 = kc := hthr.trans hkc.symm
  have hb2 : kc = 0 → bb = vv := fun q => (hb (hkc.symm.trans q)).trans hvv.symm
  have hval2 : kc = 0 → M2 (o + 276) 0 = vv ∧ rL vv := fun q => ⟨(congrFun (f2 (o + 276) (by omega)) _).trans (hval q).1, (hval q).2⟩
  refine go_istore (lv' := [(6, vi bb), (5, vi kc), (4, vi i), (3, vr (o + 276)), (2, vr (o + 247)), (1, vr o), (0, vr (b : Int))]) X d_Law_law_1079 (by decide) rfl ?_
  refine go_aload_n X d_Law_law_1081 rfl rfl ?_
  refine go_cVf (st2 := [vi kc]) (r := []) X k_Law_80 (m_thrown l D hmd.1 hthr2) hmk0.1 rfl rfl (by omega) (Nat.le_of_ble_eq_true rfl) d_Law_law_1082 (by omega) (by omega) rfl ?_
  refine go_iload X d_Law_law_1085 rfl ?_
  refine go_icmp_eq (tgt := 1092) X d_Law_law_1087 rfl (by omega) (by omega) (fun _ => ?_) (fun h9 => absurd (show kc = kc by omega) h9)
  refine go_iload X d_Law_law_1092 rfl ?_
  refine go_if_ne (tgt := 1109) X d_Law_law_1094 rfl (by omega) (fun hq1 => ?_) (fun hq1 => ?_)
  · skip
    refine go_goto (tgt := 1224) X d_Law_law_1109 rfl ?_
    refine go_lv (lv' := [(4, vi i), (3, vr (o + 276)), (2, vr (o + 247)), (1, vr o), (0, vr (b : Int))]) X [2, 3, 4, 5, 6] rfl ?_
    exact kont _ _ M2 _ (by omega) (by omega)
  · skip
    obtain ⟨hv1, hv2⟩ := hval2 hq1
    have hb3 := hb2 hq1
    refine go_aload_n X d_Law_law_1097 rfl rfl ?_
    refine go_iconst (v := 0) X d_Law_law_1098 ?_
    refine go_lald X hq (by omega) (by omega) d_Law_law_1099 ?_
    refine go_top (v' := vl vv) X (by rw [hv1]) ?_
    refine go_iload X d_Law_law_1100 rfl ?_
    refine go_i2l X d_Law_law_1102 (by omega) ?_
    refine go_lcmp X (by omega) (by omega) d_Law_law_1103 ?_
    refine go_top (v' := vi 0) X (by rw [show vv = bb by omega, s_cmp_self]) ?_
    refine go_if_eq (tgt := 1109) X d_Law_law_1104 rfl (by omega) (fun _ => ?_) (fun h9 => absurd h9 (by decide))
    refine go_goto (tgt := 1224) X d_Law_law_1109 rfl ?_
    refine go_lv (lv' := [(4, vi i), (3, vr (o + 276)), (2, vr (o + 247)), (1, vr o), (0, vr (b : Int))]) X [2, 3, 4, 5, 6] rfl ?_
    exact kont _ _ M2 _ (by omega) (by omega)
set_option maxHeartbeats 4000000 in
set_option maxRecDepth 100000 in
theorem lw_count {l : Launch} (hl : l.stackTraces = false) {D : va_G} {nm : String} {d mc ms : Nat} {sh0 : s_S} {sz0 : Int} {Po : s_Po} {g : g_X} {k n : Nat} (X : Cx l D code "CiteForgeLaw" nm 8 ret d mc ms sh0 sz0 Po g) (YY : y_C sh0 sz0 [] g) (hd0 : 20 ≤ d) (hk0 : k + 1 ≤ mc) (hn0 : n + 6 ≤ ms) {sh : s_S} {M : s_M} {o i : Int} {b N : Nat} {xs : Nat → Int32} (Z : z_C b N xs g) (hcf : cf0 sh M o) (hmk0 : mks sh M (o + 247) mL) (hq : sh (o + 276) = some (.inr (.long, 1))) (hi : 0 ≤ i ∧ i + 5 ≤ N) (hN : N ≤ 100000) (kont : ∀ (k' n' : Nat) (M' : s_M) (sz' : Int), k' ≤ k + 1 → n' ≤ n + 6 → Go g k' n' sh M' sz' 1224 [(4, vi i), (3, vr (o + 276)), (2, vr (o + 247)), (1, vr o), (0, vr (b : Int))] []) : Go g k n sh M (o + 277) 1112 [(4, vi i), (3, vr (o + 276)), (2, vr (o + 247)), (1, vr o), (0, vr (b : Int))] [] := by
  have hSr := scr_rng xs
  refine go_aload_n X d_Law_law_1112 rfl rfl ?_
  refine go_aload_n X d_Law_law_1113 rfl rfl ?_
  refine go_iload X d_Law_law_1114 rfl ?_
  refine go_iconst (v := 1) X d_Law_law_1116 ?_
  refine go_iadd X d_Law_law_1117 ?_
  refine go_scr X Z (by omega) (by omega) d_Law_law_1118 ?_
  refine go_aload_n X d_Law_law_1119 rfl rfl ?_
  refine go_callSW (r := []) (np := 3) X YY lw_count_c lw_ini (by decide +kernel) lw_count_l lw_count_s (h_count l hl D hcf.1 hcf.2.2.2.1 hcf.2.2.2.2.2.1 hcf.2.2.2.2.2.2.2.1 (hSr _) (by decide) hq (by omega)) rfl rfl (by omega) (by decide) (by omega) (by omega) (Nat.le_of_ble_eq_true rfl) d_Law_law_1120 (fun v' sh' M1 sz1 hp => ?_)
  obtain ⟨kc, vv, hkc, hvv, hkr, e1, e2, hval, hsz, f1⟩ := hp
  subst e1
  rw [e2]
  show Go g (k + 1) (n + 6) sh M1 sz1 1123 [(4, vi i), (3, vr (o + 276)), (2, vr (o + 247)), (1, vr o), (0, vr (b : Int))] [vi kc]
  have hmk := hmk0.mv (sh' := sh) (M' := M1) (fun z h1 h2 => ⟨rfl, f1 z (by show ¬ ((o + 1 ≤ z ∧ z ≤ o + 246) ∨ z = o + 276); omega)⟩)
  refine go_istore (lv' := [(5, vi kc), (4, vi i), (3, vr (o + 276)), (2, vr (o + 247)), (1, vr o), (0, vr (b : Int))]) X d_Law_law_1123 (by decide) rfl ?_
  refine go_aload_n X d_Law_law_1125 rfl rfl ?_
  refine go_aload_n X d_Law_law_1126 rfl rfl ?_
  refine go_iload X d_Law_law_1127 rfl ?_
  refine go_iconst (v := 1) X d_Law_law_1129 ?_
  refine go_iadd X d_Law_law_1130 ?_
  refine go_scr X Z (by omega) (by omega) d_Law_law_1131 ?_
  refine go_cV (st2 := []) (r := []) X k_Law_149 (m_count l D hmk.mds (hSr _) (by decide) (by decide) (by decide) (by decide) (by decide) (hmk.zero (f := 6) (by decide) (by decide)) (hmk.zero (f := 15) (by decide) (by decide)) (hmk.zero (f := 44) (by decide) (by decide)) (hmk.zero (f := 45) (by decide) (by decide)) (hmk.zero (f := 13) (by decide) (by decide))) hmk.1 rfl rfl (by omega) (Nat.le_of_ble_eq_true rfl) d_Law_law_1132 (by omega) (by omega) (fun v' sh' M2 sz2 hp => ?_)
  obtain ⟨bb, e4, hb, hbr, e5, e6, hthr, hmd, f2⟩ := hp
  subst e4
  rw [e5, e6]
  show Go g (k + 1) (n + 6) sh M2 (sz1) 1135 [(5, vi kc), (4, vi i), (3, vr (o + 276)), (2, vr (o + 247)), (1, vr o), (0, vr (b : Int))] [vi bb]
  have hthr2 : M2 (o + 247) 0 = kc := hthr.trans hkc.symm
  have hb2 : kc = 0 → bb = vv := fun q => (hb (hkc.symm.trans q)).trans hvv.symm
  have hval2 : kc = 0 → M2 (o + 276) 0 = vv ∧ rL vv := fun q => ⟨(congrFun (f2 (o + 276) (by omega)) _).trans (hval q).1, (hval q).2⟩
  refine go_istore (lv' := [(6, vi bb), (5, vi kc), (4, vi i), (3, vr (o + 276)), (2, vr (o + 247)), (1, vr o), (0, vr (b : Int))]) X d_Law_law_1135 (by decide) rfl ?_
  refine go_aload_n X d_Law_law_1137 rfl rfl ?_
  refine go_cVf (st2 := [vi kc]) (r := []) X k_Law_80 (m_thrown l D hmd.1 hthr2) hmk0.1 rfl rfl (by omega) (Nat.le_of_ble_eq_true rfl) d_Law_law_1138 (by omega) (by omega) rfl ?_
  refine go_iload X d_Law_law_1141 rfl ?_
  refine go_icmp_eq (tgt := 1148) X d_Law_law_1143 rfl (by omega) (by omega) (fun _ => ?_) (fun h9 => absurd (show kc = kc by omega) h9)
  refine go_iload X d_Law_law_1148 rfl ?_
  refine go_if_ne (tgt := 1165) X d_Law_law_1150 rfl (by omega) (fun hq1 => ?_) (fun hq1 => ?_)
  · skip
    refine go_goto (tgt := 1224) X d_Law_law_1165 rfl ?_
    refine go_lv (lv' := [(4, vi i), (3, vr (o + 276)), (2, vr (o + 247)), (1, vr o), (0, vr (b : Int))]) X [2, 3, 4, 5, 6] rfl ?_
    exact kont _ _ M2 _ (by omega) (by omega)
  · skip
    obtain ⟨hv1, hv2⟩ := hval2 hq1
    have hb3 := hb2 hq1
    refine go_aload_n X d_Law_law_1153 rfl rfl ?_
    refine go_iconst (v := 0) X d_Law_law_1154 ?_
    refine go_lald X hq (by omega) (by omega) d_Law_law_1155 ?_
    refine go_top (v' := vl vv) X (by rw [hv1]) ?_
    refine go_iload X d_Law_law_1156 rfl ?_
    refine go_i2l X d_Law_law_1158 (by omega) ?_
    refine go_lcmp X (by omega) (by omega) d_Law_law_1159 ?_
    refine go_top (v' := vi 0) X (by rw [show vv = bb by omega, s_cmp_self]) ?_
    refine go_if_eq (tgt := 1165) X d_Law_law_1160 rfl (by omega) (fun _ => ?_) (fun h9 => absurd h9 (by decide))
    refine go_goto (tgt := 1224) X d_Law_law_1165 rfl ?_
    refine go_lv (lv' := [(4, vi i), (3, vr (o + 276)), (2, vr (o + 247)), (1, vr o), (0, vr (b : Int))]) X [2, 3, 4, 5, 6] rfl ?_
    exact kont _ _ M2 _ (by omega) (by omega)
set_option maxHeartbeats 4000000 in
set_option maxRecDepth 100000 in
theorem lw_warnings {l : Launch} (hl : l.stackTraces = false) {D : va_G} {nm : String} {d mc ms : Nat} {sh0 : s_S} {sz0 : Int} {Po : s_Po} {g : g_X} {k n : Nat} (X : Cx l D code "CiteForgeLaw" nm 8 ret d mc ms sh0 sz0 Po g) (YY : y_C sh0 sz0 [] g) (hd0 : 20 ≤ d) (hk0 : k + 1 ≤ mc) (hn0 : n + 6 ≤ ms) {sh : s_S} {M : s_M} {o i : Int} {b N : Nat} {xs : Nat → Int32} (Z : z_C b N xs g) (hcf : cf0 sh M o) (hmk0 : mks sh M (o + 247) mL) (hq : sh (o + 276) = some (.inr (.long, 1))) (hi : 0 ≤ i ∧ i + 5 ≤ N) (hN : N ≤ 100000) (kont : ∀ (k' n' : Nat) (M' : s_M) (sz' : Int), k' ≤ k + 1 → n' ≤ n + 6 → Go g k' n' sh M' sz' 1224 [(4, vi i), (3, vr (o + 276)), (2, vr (o + 247)), (1, vr o), (0, vr (b : Int))] []) : Go g k n sh M (o + 277) 1168 [(4, vi i), (3, vr (o + 276)), (2, vr (o + 247)), (1, vr o), (0, vr (b : Int))] [] := by
  have hSr := scr_rng xs
  refine go_aload_n X d_Law_law_1168 rfl rfl ?_
  refine go_aload_n X d_Law_law_1169 rfl rfl ?_
  refine go_iload X d_Law_law_1170 rfl ?_
  refine go_iconst (v := 1) X d_Law_law_1172 ?_
  refine go_iadd X d_Law_law_1173 ?_
  refine go_scr X Z (by omega) (by omega) d_Law_law_1174 ?_
  refine go_aload_n X d_Law_law_1175 rfl rfl ?_
  refine go_callSW (r := []) (np := 3) X YY lw_warnings_c lw_ini (by decide +kernel) lw_warnings_l lw_warnings_s (h_warnings l hl D hcf.1  hcf.2.1 hcf.2.2.1 (hSr _) hq (by omega)) rfl rfl (by omega) (by decide) (by omega) (by omega) (Nat.le_of_ble_eq_true rfl) d_Law_law_1176 (fun v' sh' M1 sz1 hp => ?_)
  obtain ⟨kc, vv, hkc, hvv, hkr, e1, e2, hval, hsz, f1⟩ := hp
  subst e1
  rw [e2]
  show Go g (k + 1) (n + 6) sh M1 sz1 1179 [(4, vi i), (3, vr (o + 276)), (2, vr (o + 247)), (1, vr o), (0, vr (b : Int))] [vi kc]
  have hmk := hmk0.mv (sh' := sh) (M' := M1) (fun z h1 h2 => ⟨rfl, f1 z (by show ¬ ((o + 1 ≤ z ∧ z ≤ o + 246) ∨ z = o + 276); omega)⟩)
  refine go_istore (lv' := [(5, vi kc), (4, vi i), (3, vr (o + 276)), (2, vr (o + 247)), (1, vr o), (0, vr (b : Int))]) X d_Law_law_1179 (by decide) rfl ?_
  refine go_aload_n X d_Law_law_1181 rfl rfl ?_
  refine go_aload_n X d_Law_law_1182 rfl rfl ?_
  refine go_iload X d_Law_law_1183 rfl ?_
  refine go_iconst (v := 1) X d_Law_law_1185 ?_
  refine go_iadd X d_Law_law_1186 ?_
  refine go_scr X Z (by omega) (by omega) d_Law_law_1187 ?_
  refine go_cV (st2 := []) (r := []) X k_Law_152 (m_warnings l D hmk.mds (hSr _) ((hmk.2.2.1 0 _ rfl).2.2.1)) hmk.1 rfl rfl (by omega) (Nat.le_of_ble_eq_true rfl) d_Law_law_1188 (by omega) (by omega) (fun v' sh' M2 sz2 hp => ?_)
  obtain ⟨bb, e4, hb, hbr, e5, e6, hthr, hmd, f2⟩ := hp
  subst e4
  rw [e5, e6]
  show Go g (k + 1) (n + 6) sh M2 (sz1) 1191 [(5, vi kc), (4, vi i), (3, vr (o + 276)), (2, vr (o + 247)), (1, vr o), (0, vr (b : Int))] [vi bb]
  have hthr2 : M2 (o + 247) 0 = kc := hthr.trans hkc.symm
  have hb2 : kc = 0 → bb = vv := fun q => (hb (hkc.symm.trans q)).trans hvv.symm
  have hval2 : kc = 0 → M2 (o + 276) 0 = vv ∧ rL vv := fun q => ⟨(congrFun (f2 (o + 276) (by omega)) _).trans (hval q).1, (hval q).2⟩
  refine go_istore (lv' := [(6, vi bb), (5, vi kc), (4, vi i), (3, vr (o + 276)), (2, vr (o + 247)), (1, vr o), (0, vr (b : Int))]) X d_Law_law_1191 (by decide) rfl ?_
  refine go_aload_n X d_Law_law_1193 rfl rfl ?_
  refine go_cVf (st2 := [vi kc]) (r := []) X k_Law_80 (m_thrown l D hmd.1 hthr2) hmk0.1 rfl rfl (by omega) (Nat.le_of_ble_eq_true rfl) d_Law_law_1194 (by omega) (by omega) rfl ?_
  refine go_iload X d_Law_law_1197 rfl ?_
  refine go_icmp_eq (tgt := 1204) X d_Law_law_1199 rfl (by omega) (by omega) (fun _ => ?_) (fun h9 => absurd (show kc = kc by omega) h9)
  refine go_iload X d_Law_law_1204 rfl ?_
  refine go_if_ne (tgt := 1221) X d_Law_law_1206 rfl (by omega) (fun hq1 => ?_) (fun hq1 => ?_)
  · skip
    refine go_goto (tgt := 1224) X d_Law_law_1221 rfl ?_
    refine go_lv (lv' := [(4, vi i), (3, vr (o + 276)), (2, vr (o + 247)), (1, vr o), (0, vr (b : Int))]) X [2, 3, 4, 5, 6] rfl ?_
    exact kont _ _ M2 _ (by omega) (by omega)
  · skip
    obtain ⟨hv1, hv2⟩ := hval2 hq1
    have hb3 := hb2 hq1
    refine go_aload_n X d_Law_law_1209 rfl rfl ?_
    refine go_iconst (v := 0) X d_Law_law_1210 ?_
    refine go_lald X hq (by omega) (by omega) d_Law_law_1211 ?_
    refine go_top (v' := vl vv) X (by rw [hv1]) ?_
    refine go_iload X d_Law_law_1212 rfl ?_
    refine go_i2l X d_Law_law_1214 (by omega) ?_
    refine go_lcmp X (by omega) (by omega) d_Law_law_1215 ?_
    refine go_top (v' := vi 0) X (by rw [show vv = bb by omega, s_cmp_self]) ?_
    refine go_if_eq (tgt := 1221) X d_Law_law_1216 rfl (by omega) (fun _ => ?_) (fun h9 => absurd h9 (by decide))
    refine go_goto (tgt := 1224) X d_Law_law_1221 rfl ?_
    refine go_lv (lv' := [(4, vi i), (3, vr (o + 276)), (2, vr (o + 247)), (1, vr o), (0, vr (b : Int))]) X [2, 3, 4, 5, 6] rfl ?_
    exact kont _ _ M2 _ (by omega) (by omega)
